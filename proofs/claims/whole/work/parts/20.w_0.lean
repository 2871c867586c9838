/-! OvenRings$Kinds.isKind(I)Z -/
def wp_X0_isKind (a1 : Int32) (post : Int32 → Prop) : Prop := (a1 < 0 → (post (0 : Int32))) ∧ (¬ a1 < 0 → (((7 : Int32) ≤ a1 → (post (0 : Int32))) ∧ (¬ (7 : Int32) ≤ a1 → (post (1 : Int32)))))
abbrev rm_X0_isKind : Room := { frames := 0, cells := 0, slots := 0, locals := 0 }
abbrev Qc_X0_isKind (K : vGl)     (post : Int32 → Prop) (A : Nat → Prop) : Array Value → State → Outcome → State → Prop := va_Qi (fun (r : Int32) (u : Unit) => (r = 0 ∨ r = 1) ∧ post r ) (fun u t => vB K A [] t) A
set_option maxHeartbeats 4000000 in
set_option maxRecDepth 100000 in
theorem c_X0_isKind (l : Launch) (K : vGl)    (sz : Nat) (a1 : Int32) (post : Int32 → Prop) (hw : wp_X0_isKind a1 post) : Met l yX0_isKind (.code yX0_isKind cX0_isKind 1 (some .boolean) :: vT) rm_X0_isKind (va_Pc [.int a1] (vPre K [] sz)) (Qc_X0_isKind K  post (va_A [] sz)) 0 0 (va_A [] sz) := by
  unfold wp_X0_isKind at hw
  refine Met.ofW (cc := cX0_isKind) (maxL := 1) (ret := (some .boolean)) (by decide) rfl ?_
  intro p e s m args below meth c s₁ B hml hv
  obtain ⟨rfl, hsz, hP, hK, hD0, hG, hR⟩ := hv
  have hx := B.exec
  have hb := B.bytes
  have hr := B.returns
  have hts : ∀ w ∈ vT, w.before _ s = true := fun w h => atoms_spec (ws := .code yX0_isKind cX0_isKind 1 (some .boolean) :: vT) B.pre w (List.mem_cons_of_mem _ h)
  have hown : s.vm.findClass RX0 = some m.cls := findClass_of_methodNamed B.named
  have hlocks := B.notSynchronized
  subst hsz
  have hD := hD0.self (sz := s.heap.size)
  show W p l e (rm_X0_isKind) s m _ below meth c s.heap [] 0 0 _ _
  generalize hAe : va_A [] s.heap.size = A at hD hG ⊢
  have hX : vX K A s := ⟨hK, hG, hR, fun q h => by rw [← hAe]; exact Or.inr h⟩
  have hS : va_S A s.heap s.heap [] := va_S.rf
  have F : vFx p s m ([.int a1] : List Value).toArray meth c cX0_isKind RX0 1 (some .boolean) := ⟨hx, hb, hml, hown, hts, hr, hlocks⟩
  have hl := lv_entry ([.int a1]) (n := 1) (Nat.le_of_ble_eq_true rfl)
  rw [lg_entry_eq]
  generalize (lg_sl ([.int a1]) ++ List.replicate (1 - (lg_sl ([.int a1])).length) Slot.unset).toArray = ls at hl ⊢
  have hl : lv_has ls 1 [(0, .int a1)] := hl
  obtain ⟨H, hHe⟩ : ∃ H, H = s.heap := ⟨_, rfl⟩
  have hS : va_S A s.heap H [] := by rw [hHe]; exact hS
  have hP : va_P K.1 vwCl [] H := by rw [hHe]; exact hP
  refine vWH hHe ?_
  refine lv_iload_n hx hb dX0_isKind_0 rfl (lv_at hl 0 rfl) ?_
  refine lv_if_lt (tgt := 16) hx hb dX0_isKind_1 (by decide) (fun c_1 => ?_) (fun c_1 => ?_)
  · have hw := hw.1 c_1
    refine lv_iconst (v := (0 : Int32)) hx hb dX0_isKind_16 (by decide) ?_
    exact W.zret (v := (0 : Int32)) hx hb hr vZ0 (fun t ht hW => ⟨⟨(0 : Int32), (), rfl, ⟨Or.inl rfl, hw⟩, by rw [ht]; exact hP, va_K.moved hW.alike hX.1, hD⟩, hS.F ht⟩) hS.2.2 dX0_isKind_17 hlocks
  · have hw := hw.2 c_1
    refine lv_iload_n hx hb dX0_isKind_4 rfl (lv_at hl 0 rfl) ?_
    refine va_gets hx hb hX.2.1.1 hS hown (hts _ k_403) (fun _ h9 => h9) dX0_isKind_5 ?_
    refine va_tlen (v := (7 : Int32)) hx hb hX.2.1.2.1 hS rfl dX0_isKind_8 ?_
    refine lv_icmp_ge (tgt := 16) hx hb dX0_isKind_9 (by decide) (fun c_2 => ?_) (fun c_2 => ?_)
    · have hw := hw.1 c_2
      refine lv_iconst (v := (0 : Int32)) hx hb dX0_isKind_16 (by decide) ?_
      exact W.zret (v := (0 : Int32)) hx hb hr vZ0 (fun t ht hW => ⟨⟨(0 : Int32), (), rfl, ⟨Or.inl rfl, hw⟩, by rw [ht]; exact hP, va_K.moved hW.alike hX.1, hD⟩, hS.F ht⟩) hS.2.2 dX0_isKind_17 hlocks
    · have hw := hw.2 c_2
      refine lv_iconst (v := (1 : Int32)) hx hb dX0_isKind_12 (by decide) ?_
      refine lv_goto (tgt := 17) hx hb dX0_isKind_13 (by decide) ?_
      exact W.zret (v := (1 : Int32)) hx hb hr vZ1 (fun t ht hW => ⟨⟨(1 : Int32), (), rfl, ⟨Or.inr rfl, hw⟩, by rw [ht]; exact hP, va_K.moved hW.alike hX.1, hD⟩, hS.F ht⟩) hS.2.2 dX0_isKind_17 hlocks
/-! OvenRings$Kinds.above(I)I -/
def wp_X0_above (a1 : Int32) (post : Int32 → Prop) : Prop := wp_X0_isKind a1 (fun r_1 => (r_1 = 0 → (post (-1 : Int32))) ∧ (¬ r_1 = 0 → (vp_in a1 7 ∧ (post (vAbove a1.toNatClampNeg)))))
abbrev rm_X0_above : Room := { frames := 1, cells := 0, slots := 0, locals := 20 }
abbrev Qc_X0_above (K : vGl)     (post : Int32 → Prop) (A : Nat → Prop) : Array Value → State → Outcome → State → Prop := va_Qi (fun (r : Int32) (u : Unit) => post r ) (fun u t => vB K A [] t) A
set_option maxHeartbeats 4000000 in
set_option maxRecDepth 100000 in
theorem c_X0_above (l : Launch) (K : vGl)    (sz : Nat) (a1 : Int32) (post : Int32 → Prop) (hw : wp_X0_above a1 post) : Met l yX0_above (.code yX0_above cX0_above 1 (some .int) :: vT) rm_X0_above (va_Pc [.int a1] (vPre K [] sz)) (Qc_X0_above K  post (va_A [] sz)) 0 0 (va_A [] sz) := by
  unfold wp_X0_above at hw
  refine Met.ofW (cc := cX0_above) (maxL := 1) (ret := (some .int)) (by decide) rfl ?_
  intro p e s m args below meth c s₁ B hml hv
  obtain ⟨rfl, hsz, hP, hK, hD0, hG, hR⟩ := hv
  have hx := B.exec
  have hb := B.bytes
  have hr := B.returns
  have hts : ∀ w ∈ vT, w.before _ s = true := fun w h => atoms_spec (ws := .code yX0_above cX0_above 1 (some .int) :: vT) B.pre w (List.mem_cons_of_mem _ h)
  have hown : s.vm.findClass RX0 = some m.cls := findClass_of_methodNamed B.named
  have hlocks := B.notSynchronized
  subst hsz
  have hD := hD0.self (sz := s.heap.size)
  show W p l e (rm_X0_above) s m _ below meth c s.heap [] 0 0 _ _
  generalize hAe : va_A [] s.heap.size = A at hD hG ⊢
  have hX : vX K A s := ⟨hK, hG, hR, fun q h => by rw [← hAe]; exact Or.inr h⟩
  have hS : va_S A s.heap s.heap [] := va_S.rf
  have F : vFx p s m ([.int a1] : List Value).toArray meth c cX0_above RX0 1 (some .int) := ⟨hx, hb, hml, hown, hts, hr, hlocks⟩
  have hl := lv_entry ([.int a1]) (n := 1) (Nat.le_of_ble_eq_true rfl)
  rw [lg_entry_eq]
  generalize (lg_sl ([.int a1]) ++ List.replicate (1 - (lg_sl ([.int a1])).length) Slot.unset).toArray = ls at hl ⊢
  have hl : lv_has ls 1 [(0, .int a1)] := hl
  obtain ⟨H, hHe⟩ : ∃ H, H = s.heap := ⟨_, rfl⟩
  have hS : va_S A s.heap H [] := by rw [hHe]; exact hS
  have hP : va_P K.1 vwCl [] H := by rw [hHe]; exact hP
  refine vWH hHe ?_
  refine lv_iload_n hx hb dX0_above_0 rfl (lv_at hl 0 rfl) ?_
  refine vCalli (K := K) (wr := []) (w1 := (fun _ => [])) (va_runS (As := [.int a1]) (rest := []) ⟨hx, hb, hml, hown, hts⟩ (c_X0_isKind l K  H.size a1 _ hw) (va_cwS 1 hts (vGoodS k_411 k_401 k_66 k_402) rfl rfl rfl (by decide +kernel) ⟨Nat.le_of_ble_eq_true rfl, Nat.le_of_ble_eq_true rfl⟩) ⟨vPre_blind, fun U hU hW => ⟨rfl, vPre_of hX hP hD hS [] rfl (by decide) U hU hW⟩⟩ rfl rfl hl.1 rfl (lv_room (Nat.le_of_ble_eq_true rfl)) dX0_above_1 ⟨Nat.zero_le _, Nat.zero_le _⟩) hX hP hD hS [] [] rfl rfl (by decide) (by decide) (fun r_1 u H locs hw hP hD hS => ?_)
  have hz_r_1 := hw.1
  have hw := hw.2
  refine lv_if_eq (tgt := 15) hx hb dX0_above_4 (by decide) (fun c_2 => ?_) (fun c_2 => ?_)
  · have hw := hw.1 c_2
    refine lv_iconst (v := (-1 : Int32)) hx hb dX0_above_15 (by decide) ?_
    exact W.iret (v := (-1 : Int32)) hx hb hr (fun t ht hW => ⟨⟨(-1 : Int32), (), rfl, hw, by rw [ht]; exact hP, va_K.moved hW.alike hX.1, hD⟩, hS.F ht⟩) hS.2.2 dX0_above_16 hlocks
  · have hw := hw.2 c_2
    refine va_gets hx hb hX.2.1.1 hS hown (hts _ k_403) (fun _ h9 => h9) dX0_above_7 ?_
    refine lv_iload_n hx hb dX0_above_10 rfl (lv_at hl 0 rfl) ?_
    refine va_ti hx hb hX.2.1.2.1 hS hw.1 rfl dX0_above_11 ?_
    have hw := hw.2
    refine lv_goto (tgt := 16) hx hb dX0_above_12 (by decide) ?_
    exact W.iret (v := (vAbove a1.toNatClampNeg)) hx hb hr (fun t ht hW => ⟨⟨(vAbove a1.toNatClampNeg), (), rfl, hw, by rw [ht]; exact hP, va_K.moved hW.alike hX.1, hD⟩, hS.F ht⟩) hS.2.2 dX0_above_16 hlocks
/-! OvenRings$Kinds.isUnder(II)Z -/
def wp_X0_isUnder_b4 (a2 : Int32)  (post : Int32 → Prop) : Nat → Int32 → Int32 → Prop
  | 0, _, _ => False
  | n + 1, x2, x3 => ((7 : Int32) ≤ x3 → ((x2 = a2 → (post (1 : Int32))) ∧ (¬ x2 = a2 → (post (0 : Int32))))) ∧ (¬ (7 : Int32) ≤ x3 → ((x2 = a2 → ((x2 = a2 → (post (1 : Int32))) ∧ (¬ x2 = a2 → (post (0 : Int32))))) ∧ (¬ x2 = a2 → (wp_X0_above x2 (fun r_5 => wp_X0_isUnder_b4 a2 post n r_5 (x3 + (1 : Int32)))))))
theorem u_X0_isUnder_b4 {a2 : Int32}  {post : Int32 → Prop} {n : Nat} {x2 : Int32} {x3 : Int32} (h : wp_X0_isUnder_b4 a2 post (n + 1) x2 x3) : ((7 : Int32) ≤ x3 → ((x2 = a2 → (post (1 : Int32))) ∧ (¬ x2 = a2 → (post (0 : Int32))))) ∧ (¬ (7 : Int32) ≤ x3 → ((x2 = a2 → ((x2 = a2 → (post (1 : Int32))) ∧ (¬ x2 = a2 → (post (0 : Int32))))) ∧ (¬ x2 = a2 → (wp_X0_above x2 (fun r_5 => wp_X0_isUnder_b4 a2 post n r_5 (x3 + (1 : Int32))))))) := h
def wp_X0_isUnder (a1 : Int32) (a2 : Int32) (post : Int32 → Prop) : Prop := ∃ k, wp_X0_isUnder_b4 a2 post k a1 (0 : Int32)
abbrev rm_X0_isUnder : Room := { frames := 2, cells := 0, slots := 0, locals := 40 }
abbrev Qc_X0_isUnder (K : vGl)     (post : Int32 → Prop) (A : Nat → Prop) : Array Value → State → Outcome → State → Prop := va_Qi (fun (r : Int32) (u : Unit) => (r = 0 ∨ r = 1) ∧ post r ) (fun u t => vB K A [] t) A
set_option maxHeartbeats 4000000 in
set_option maxRecDepth 100000 in
theorem t_X0_isUnder_b4 {p : Program} {l : Launch} {e : Env} {s : State} {m : MethodId} {args : Array Value} {below : List Frame} {meth : Method} {c : Code} {A : Nat → Prop} {K : vGl} {a2 : Int32} {post : Int32 → Prop} (F : vFx p s m args meth c cX0_isUnder RX0 4 (some .boolean)) (hX : vX K A s) : ∀ (n : Nat) (x2 : Int32) (x3 : Int32) (H : Heap) (locs : List Loc) (ls : Array Slot), wp_X0_isUnder_b4 a2 post n x2 x3 → va_P K.1 vwCl [] H → va_D A [] → va_S A s.heap H locs → lv_has ls 4 [(1, .int a2), (2, .int x2), (3, .int x3)] → W p l e rm_X0_isUnder s m args below meth c H locs 0 0 (MQ below (Qc_X0_isUnder K  post A) args s 0 0 A) (F0 m 4 ls []) := by
  obtain ⟨hx, hb, hml, hown, hts, hr, hlocks⟩ := id F
  intro n
  induction n with
  | zero =>
    intro x2 x3 H locs ls hw
    exact hw.elim
  | succ n ih =>
    intro x2 x3 H locs ls hw hP hD hS hl
    have hw := u_X0_isUnder_b4 hw
    refine lv_iload_n hx hb dX0_isUnder_4 rfl (lv_at hl 2 rfl) ?_
    refine va_gets hx hb hX.2.1.1 hS hown (hts _ k_403) (fun _ h9 => h9) dX0_isUnder_5 ?_
    refine va_tlen (v := (7 : Int32)) hx hb hX.2.1.2.1 hS rfl dX0_isUnder_8 ?_
    refine lv_icmp_ge (tgt := 28) hx hb dX0_isUnder_9 (by decide) (fun c_1 => ?_) (fun c_1 => ?_)
    · have hw := hw.1 c_1
      refine lv_iload_n hx hb dX0_isUnder_28 rfl (lv_at hl 1 rfl) ?_
      refine lv_iload_n hx hb dX0_isUnder_29 rfl (lv_at hl 0 rfl) ?_
      refine lv_icmp_ne (tgt := 37) hx hb dX0_isUnder_30 (by decide) (fun c_2 => ?_) (fun c_2 => ?_)
      · have hw := hw.2 c_2
        refine lv_iconst (v := (0 : Int32)) hx hb dX0_isUnder_37 (by decide) ?_
        exact W.zret (v := (0 : Int32)) hx hb hr vZ0 (fun t ht hW => ⟨⟨(0 : Int32), (), rfl, ⟨Or.inl rfl, hw⟩, by rw [ht]; exact hP, va_K.moved hW.alike hX.1, hD⟩, hS.F ht⟩) hS.2.2 dX0_isUnder_38 hlocks
      · have hw := hw.1 c_2
        refine lv_iconst (v := (1 : Int32)) hx hb dX0_isUnder_33 (by decide) ?_
        refine lv_goto (tgt := 38) hx hb dX0_isUnder_34 (by decide) ?_
        exact W.zret (v := (1 : Int32)) hx hb hr vZ1 (fun t ht hW => ⟨⟨(1 : Int32), (), rfl, ⟨Or.inr rfl, hw⟩, by rw [ht]; exact hP, va_K.moved hW.alike hX.1, hD⟩, hS.F ht⟩) hS.2.2 dX0_isUnder_38 hlocks
    · have hw := hw.2 c_1
      refine lv_iload_n hx hb dX0_isUnder_12 rfl (lv_at hl 1 rfl) ?_
      refine lv_iload_n hx hb dX0_isUnder_13 rfl (lv_at hl 0 rfl) ?_
      refine lv_icmp_eq (tgt := 28) hx hb dX0_isUnder_14 (by decide) (fun c_3 => ?_) (fun c_3 => ?_)
      · have hw := hw.1 c_3
        refine lv_iload_n hx hb dX0_isUnder_28 rfl (lv_at hl 1 rfl) ?_
        refine lv_iload_n hx hb dX0_isUnder_29 rfl (lv_at hl 0 rfl) ?_
        refine lv_icmp_ne (tgt := 37) hx hb dX0_isUnder_30 (by decide) (fun c_4 => ?_) (fun c_4 => ?_)
        · have hw := hw.2 c_4
          refine lv_iconst (v := (0 : Int32)) hx hb dX0_isUnder_37 (by decide) ?_
          exact W.zret (v := (0 : Int32)) hx hb hr vZ0 (fun t ht hW => ⟨⟨(0 : Int32), (), rfl, ⟨Or.inl rfl, hw⟩, by rw [ht]; exact hP, va_K.moved hW.alike hX.1, hD⟩, hS.F ht⟩) hS.2.2 dX0_isUnder_38 hlocks
        · have hw := hw.1 c_4
          refine lv_iconst (v := (1 : Int32)) hx hb dX0_isUnder_33 (by decide) ?_
          refine lv_goto (tgt := 38) hx hb dX0_isUnder_34 (by decide) ?_
          exact W.zret (v := (1 : Int32)) hx hb hr vZ1 (fun t ht hW => ⟨⟨(1 : Int32), (), rfl, ⟨Or.inr rfl, hw⟩, by rw [ht]; exact hP, va_K.moved hW.alike hX.1, hD⟩, hS.F ht⟩) hS.2.2 dX0_isUnder_38 hlocks
      · have hw := hw.2 c_3
        refine lv_iload_n hx hb dX0_isUnder_17 rfl (lv_at hl 1 rfl) ?_
        refine vCalli (K := K) (wr := []) (w1 := (fun _ => [])) (va_runS (As := [.int x2]) (rest := []) ⟨hx, hb, hml, hown, hts⟩ (c_X0_above l K  H.size x2 _ hw) (va_cwS 1 hts (vGoodS k_408 k_409 k_66 k_410) rfl rfl rfl (by decide +kernel) ⟨Nat.le_of_ble_eq_true rfl, Nat.le_of_ble_eq_true rfl⟩) ⟨vPre_blind, fun U hU hW => ⟨rfl, vPre_of hX hP hD hS [] rfl (by decide) U hU hW⟩⟩ rfl rfl hl.1 rfl (lv_room (Nat.le_of_ble_eq_true rfl)) dX0_isUnder_18 ⟨Nat.zero_le _, Nat.zero_le _⟩) hX hP hD hS [] [] rfl rfl (by decide) (by decide) (fun r_5 u H locs hw hP hD hS => ?_)
        refine lv_istore_n (lv' := [(2, .int r_5), (1, .int a2), (3, .int x3)]) hx hb dX0_isUnder_21 rfl hl (by decide) rfl (fun ls hl => ?_)
        refine lv_iinc (v := (x3 + (1 : Int32))) (lv' := [(3, .int (x3 + (1 : Int32))), (2, .int r_5), (1, .int a2)]) hx hb dX0_isUnder_22 hl (k := 2) rfl rfl (by decide) rfl (fun ls hl => ?_)
        refine lv_goto (tgt := 4) hx hb dX0_isUnder_25 (by decide) ?_
        exact ih _ _ _ _ _ hw hP hD hS (lv_sub hl [2, 1, 0] rfl)
set_option maxHeartbeats 4000000 in
set_option maxRecDepth 100000 in
theorem c_X0_isUnder (l : Launch) (K : vGl)    (sz : Nat) (a1 : Int32) (a2 : Int32) (post : Int32 → Prop) (hw : wp_X0_isUnder a1 a2 post) : Met l yX0_isUnder (.code yX0_isUnder cX0_isUnder 4 (some .boolean) :: vT) rm_X0_isUnder (va_Pc [.int a1, .int a2] (vPre K [] sz)) (Qc_X0_isUnder K  post (va_A [] sz)) 0 0 (va_A [] sz) := by
  unfold wp_X0_isUnder at hw
  refine Met.ofW (cc := cX0_isUnder) (maxL := 4) (ret := (some .boolean)) (by decide) rfl ?_
  intro p e s m args below meth c s₁ B hml hv
  obtain ⟨rfl, hsz, hP, hK, hD0, hG, hR⟩ := hv
  have hx := B.exec
  have hb := B.bytes
  have hr := B.returns
  have hts : ∀ w ∈ vT, w.before _ s = true := fun w h => atoms_spec (ws := .code yX0_isUnder cX0_isUnder 4 (some .boolean) :: vT) B.pre w (List.mem_cons_of_mem _ h)
  have hown : s.vm.findClass RX0 = some m.cls := findClass_of_methodNamed B.named
  have hlocks := B.notSynchronized
  subst hsz
  have hD := hD0.self (sz := s.heap.size)
  show W p l e (rm_X0_isUnder) s m _ below meth c s.heap [] 0 0 _ _
  generalize hAe : va_A [] s.heap.size = A at hD hG ⊢
  have hX : vX K A s := ⟨hK, hG, hR, fun q h => by rw [← hAe]; exact Or.inr h⟩
  have hS : va_S A s.heap s.heap [] := va_S.rf
  have F : vFx p s m ([.int a1, .int a2] : List Value).toArray meth c cX0_isUnder RX0 4 (some .boolean) := ⟨hx, hb, hml, hown, hts, hr, hlocks⟩
  have hl := lv_entry ([.int a1, .int a2]) (n := 4) (Nat.le_of_ble_eq_true rfl)
  rw [lg_entry_eq]
  generalize (lg_sl ([.int a1, .int a2]) ++ List.replicate (4 - (lg_sl ([.int a1, .int a2])).length) Slot.unset).toArray = ls at hl ⊢
  have hl : lv_has ls 4 [(0, .int a1), (1, .int a2)] := hl
  obtain ⟨H, hHe⟩ : ∃ H, H = s.heap := ⟨_, rfl⟩
  have hS : va_S A s.heap H [] := by rw [hHe]; exact hS
  have hP : va_P K.1 vwCl [] H := by rw [hHe]; exact hP
  refine vWH hHe ?_
  refine lv_iload_n hx hb dX0_isUnder_0 rfl (lv_at hl 0 rfl) ?_
  refine lv_istore_n (lv' := [(2, .int a1), (0, .int a1), (1, .int a2)]) hx hb dX0_isUnder_1 rfl hl (by decide) rfl (fun ls hl => ?_)
  refine lv_iconst (v := (0 : Int32)) hx hb dX0_isUnder_2 (by decide) ?_
  refine lv_istore_n (lv' := [(3, .int (0 : Int32)), (2, .int a1), (0, .int a1), (1, .int a2)]) hx hb dX0_isUnder_3 rfl hl (by decide) rfl (fun ls hl => ?_)
  obtain ⟨k, hw⟩ := hw
  exact t_X0_isUnder_b4 F hX k _ _ _ _ _ hw hP hD hS (lv_sub hl [3, 1, 0] rfl)
/-! OvenRings$Kinds.least(III)I -/
def wp_X0_least (a1 : Int32) (a2 : Int32) (a3 : Int32) (post : Int32 → Prop) : Prop := ((vrem a3 (3 : Int32)) = 0 → ((a1 = (1 : Int32) → (post ((40 : Int32) + ((2 : Int32) * a2)))) ∧ (a1 = (2 : Int32) → (post (20 : Int32))) ∧ (a1 = (3 : Int32) → (post (30 : Int32))) ∧ (a1 = (4 : Int32) → (post (100 : Int32))) ∧ (a1 = (5 : Int32) → (post ((20 : Int32) - a2))) ∧ (a1 = (6 : Int32) → (post ((30 : Int32) + a2))) ∧ (¬ a1 = (1 : Int32) → ¬ a1 = (2 : Int32) → ¬ a1 = (3 : Int32) → ¬ a1 = (4 : Int32) → ¬ a1 = (5 : Int32) → ¬ a1 = (6 : Int32) → (post (40 : Int32))))) ∧ (¬ (vrem a3 (3 : Int32)) = 0 → ((a1 = (1 : Int32) → (post ((40 : Int32) + ((2 : Int32) * a2)))) ∧ (a1 = (2 : Int32) → (post (20 : Int32))) ∧ (a1 = (3 : Int32) → (post (40 : Int32))) ∧ (a1 = (4 : Int32) → (post (100 : Int32))) ∧ (a1 = (5 : Int32) → (post ((20 : Int32) - a2))) ∧ (a1 = (6 : Int32) → (post ((40 : Int32) + a2))) ∧ (¬ a1 = (1 : Int32) → ¬ a1 = (2 : Int32) → ¬ a1 = (3 : Int32) → ¬ a1 = (4 : Int32) → ¬ a1 = (5 : Int32) → ¬ a1 = (6 : Int32) → (post (40 : Int32)))))
abbrev rm_X0_least : Room := { frames := 0, cells := 0, slots := 0, locals := 0 }
abbrev Qc_X0_least (K : vGl)     (post : Int32 → Prop) (A : Nat → Prop) : Array Value → State → Outcome → State → Prop := va_Qi (fun (r : Int32) (u : Unit) => post r ) (fun u t => vB K A [] t) A
set_option maxHeartbeats 4000000 in
set_option maxRecDepth 100000 in
theorem c_X0_least (l : Launch) (K : vGl)    (sz : Nat) (a1 : Int32) (a2 : Int32) (a3 : Int32) (post : Int32 → Prop) (hw : wp_X0_least a1 a2 a3 post) : Met l yX0_least (.code yX0_least cX0_least 4 (some .int) :: vT) rm_X0_least (va_Pc [.int a1, .int a2, .int a3] (vPre K [] sz)) (Qc_X0_least K  post (va_A [] sz)) 0 0 (va_A [] sz) := by
  unfold wp_X0_least at hw
  refine Met.ofW (cc := cX0_least) (maxL := 4) (ret := (some .int)) (by decide) rfl ?_
  intro p e s m args below meth c s₁ B hml hv
  obtain ⟨rfl, hsz, hP, hK, hD0, hG, hR⟩ := hv
  have hx := B.exec
  have hb := B.bytes
  have hr := B.returns
  have hts : ∀ w ∈ vT, w.before _ s = true := fun w h => atoms_spec (ws := .code yX0_least cX0_least 4 (some .int) :: vT) B.pre w (List.mem_cons_of_mem _ h)
  have hown : s.vm.findClass RX0 = some m.cls := findClass_of_methodNamed B.named
  have hlocks := B.notSynchronized
  subst hsz
  have hD := hD0.self (sz := s.heap.size)
  show W p l e (rm_X0_least) s m _ below meth c s.heap [] 0 0 _ _
  generalize hAe : va_A [] s.heap.size = A at hD hG ⊢
  have hX : vX K A s := ⟨hK, hG, hR, fun q h => by rw [← hAe]; exact Or.inr h⟩
  have hS : va_S A s.heap s.heap [] := va_S.rf
  have F : vFx p s m ([.int a1, .int a2, .int a3] : List Value).toArray meth c cX0_least RX0 4 (some .int) := ⟨hx, hb, hml, hown, hts, hr, hlocks⟩
  have hl := lv_entry ([.int a1, .int a2, .int a3]) (n := 4) (Nat.le_of_ble_eq_true rfl)
  rw [lg_entry_eq]
  generalize (lg_sl ([.int a1, .int a2, .int a3]) ++ List.replicate (4 - (lg_sl ([.int a1, .int a2, .int a3])).length) Slot.unset).toArray = ls at hl ⊢
  have hl : lv_has ls 4 [(0, .int a1), (1, .int a2), (2, .int a3)] := hl
  obtain ⟨H, hHe⟩ : ∃ H, H = s.heap := ⟨_, rfl⟩
  have hS : va_S A s.heap H [] := by rw [hHe]; exact hS
  have hP : va_P K.1 vwCl [] H := by rw [hHe]; exact hP
  refine vWH hHe ?_
  refine lv_iload_n hx hb dX0_least_0 rfl (lv_at hl 2 rfl) ?_
  refine lv_iconst (v := (3 : Int32)) hx hb dX0_least_1 (by decide) ?_
  refine lv_irem hx hb dX0_least_2 (by decide) ?_
  refine lv_if_ne (tgt := 11) hx hb dX0_least_3 (by decide) (fun c_1 => ?_) (fun c_1 => ?_)
  · have hw := hw.2 c_1
    refine lv_bipush (v := (40 : Int32)) hx hb dX0_least_11 (by decide) ?_
    refine lv_istore_n (lv' := [(3, .int (40 : Int32)), (0, .int a1), (1, .int a2), (2, .int a3)]) hx hb dX0_least_13 rfl hl (by decide) rfl (fun ls hl => ?_)
    refine lv_iload_n hx hb dX0_least_14 rfl (lv_at hl 1 rfl) ?_
    rcases hw with ⟨hw0, hw1, hw2, hw3, hw4, hw5, hw6⟩
    rcases Classical.em (a1 = (1 : Int32)) with c_2 | c_2
    · refine lv_tableIn (tgt := 52) hx hb dX0_least_15 (by rw [c_2]; decide) (by rw [c_2]; decide) (by rw [c_2]; rfl) (by decide) ?_
      have hw := hw0 c_2
      refine lv_bipush (v := (40 : Int32)) hx hb dX0_least_52 (by decide) ?_
      refine lv_iconst (v := (2 : Int32)) hx hb dX0_least_54 (by decide) ?_
      refine lv_iload_n hx hb dX0_least_55 rfl (lv_at hl 2 rfl) ?_
      refine lv_imul hx hb dX0_least_56 ?_
      refine lv_iadd hx hb dX0_least_57 ?_
      exact W.iret (v := ((40 : Int32) + ((2 : Int32) * a2))) hx hb hr (fun t ht hW => ⟨⟨((40 : Int32) + ((2 : Int32) * a2)), (), rfl, hw, by rw [ht]; exact hP, va_K.moved hW.alike hX.1, hD⟩, hS.F ht⟩) hS.2.2 dX0_least_58 hlocks
    rcases Classical.em (a1 = (2 : Int32)) with c_3 | c_3
    · refine lv_tableIn (tgt := 59) hx hb dX0_least_15 (by rw [c_3]; decide) (by rw [c_3]; decide) (by rw [c_3]; rfl) (by decide) ?_
      have hw := hw1 c_3
      refine lv_bipush (v := (20 : Int32)) hx hb dX0_least_59 (by decide) ?_
      exact W.iret (v := (20 : Int32)) hx hb hr (fun t ht hW => ⟨⟨(20 : Int32), (), rfl, hw, by rw [ht]; exact hP, va_K.moved hW.alike hX.1, hD⟩, hS.F ht⟩) hS.2.2 dX0_least_61 hlocks
    rcases Classical.em (a1 = (3 : Int32)) with c_4 | c_4
    · refine lv_tableIn (tgt := 62) hx hb dX0_least_15 (by rw [c_4]; decide) (by rw [c_4]; decide) (by rw [c_4]; rfl) (by decide) ?_
      have hw := hw2 c_4
      refine lv_iload_n hx hb dX0_least_62 rfl (lv_at hl 0 rfl) ?_
      exact W.iret (v := (40 : Int32)) hx hb hr (fun t ht hW => ⟨⟨(40 : Int32), (), rfl, hw, by rw [ht]; exact hP, va_K.moved hW.alike hX.1, hD⟩, hS.F ht⟩) hS.2.2 dX0_least_63 hlocks
    rcases Classical.em (a1 = (4 : Int32)) with c_5 | c_5
    · refine lv_tableIn (tgt := 64) hx hb dX0_least_15 (by rw [c_5]; decide) (by rw [c_5]; decide) (by rw [c_5]; rfl) (by decide) ?_
      have hw := hw3 c_5
      refine lv_bipush (v := (100 : Int32)) hx hb dX0_least_64 (by decide) ?_
      exact W.iret (v := (100 : Int32)) hx hb hr (fun t ht hW => ⟨⟨(100 : Int32), (), rfl, hw, by rw [ht]; exact hP, va_K.moved hW.alike hX.1, hD⟩, hS.F ht⟩) hS.2.2 dX0_least_66 hlocks
    rcases Classical.em (a1 = (5 : Int32)) with c_6 | c_6
    · refine lv_tableIn (tgt := 67) hx hb dX0_least_15 (by rw [c_6]; decide) (by rw [c_6]; decide) (by rw [c_6]; rfl) (by decide) ?_
      have hw := hw4 c_6
      refine lv_bipush (v := (20 : Int32)) hx hb dX0_least_67 (by decide) ?_
      refine lv_iload_n hx hb dX0_least_69 rfl (lv_at hl 2 rfl) ?_
      refine lv_isub hx hb dX0_least_70 ?_
      exact W.iret (v := ((20 : Int32) - a2)) hx hb hr (fun t ht hW => ⟨⟨((20 : Int32) - a2), (), rfl, hw, by rw [ht]; exact hP, va_K.moved hW.alike hX.1, hD⟩, hS.F ht⟩) hS.2.2 dX0_least_71 hlocks
    rcases Classical.em (a1 = (6 : Int32)) with c_7 | c_7
    · refine lv_tableIn (tgt := 72) hx hb dX0_least_15 (by rw [c_7]; decide) (by rw [c_7]; decide) (by rw [c_7]; rfl) (by decide) ?_
      have hw := hw5 c_7
      refine lv_iload_n hx hb dX0_least_72 rfl (lv_at hl 0 rfl) ?_
      refine lv_iload_n hx hb dX0_least_73 rfl (lv_at hl 2 rfl) ?_
      refine lv_iadd hx hb dX0_least_74 ?_
      exact W.iret (v := ((40 : Int32) + a2)) hx hb hr (fun t ht hW => ⟨⟨((40 : Int32) + a2), (), rfl, hw, by rw [ht]; exact hP, va_K.moved hW.alike hX.1, hD⟩, hS.F ht⟩) hS.2.2 dX0_least_75 hlocks
    refine lv_tableOut (tgt := 76) hx hb dX0_least_15 (by have i0 := vI_ne (z := 1) c_2 (by decide +kernel); have i1 := vI_ne (z := 2) c_3 (by decide +kernel); have i2 := vI_ne (z := 3) c_4 (by decide +kernel); have i3 := vI_ne (z := 4) c_5 (by decide +kernel); have i4 := vI_ne (z := 5) c_6 (by decide +kernel); have i5 := vI_ne (z := 6) c_7 (by decide +kernel); omega) (by decide) ?_
    have hw := hw6 c_2 c_3 c_4 c_5 c_6 c_7
    refine lv_bipush (v := (40 : Int32)) hx hb dX0_least_76 (by decide) ?_
    exact W.iret (v := (40 : Int32)) hx hb hr (fun t ht hW => ⟨⟨(40 : Int32), (), rfl, hw, by rw [ht]; exact hP, va_K.moved hW.alike hX.1, hD⟩, hS.F ht⟩) hS.2.2 dX0_least_78 hlocks
  · have hw := hw.1 c_1
    refine lv_bipush (v := (30 : Int32)) hx hb dX0_least_6 (by decide) ?_
    refine lv_goto (tgt := 13) hx hb dX0_least_8 (by decide) ?_
    refine lv_istore_n (lv' := [(3, .int (30 : Int32)), (0, .int a1), (1, .int a2), (2, .int a3)]) hx hb dX0_least_13 rfl hl (by decide) rfl (fun ls hl => ?_)
    refine lv_iload_n hx hb dX0_least_14 rfl (lv_at hl 1 rfl) ?_
    rcases hw with ⟨hw0, hw1, hw2, hw3, hw4, hw5, hw6⟩
    rcases Classical.em (a1 = (1 : Int32)) with c_8 | c_8
    · refine lv_tableIn (tgt := 52) hx hb dX0_least_15 (by rw [c_8]; decide) (by rw [c_8]; decide) (by rw [c_8]; rfl) (by decide) ?_
      have hw := hw0 c_8
      refine lv_bipush (v := (40 : Int32)) hx hb dX0_least_52 (by decide) ?_
      refine lv_iconst (v := (2 : Int32)) hx hb dX0_least_54 (by decide) ?_
      refine lv_iload_n hx hb dX0_least_55 rfl (lv_at hl 2 rfl) ?_
      refine lv_imul hx hb dX0_least_56 ?_
      refine lv_iadd hx hb dX0_least_57 ?_
      exact W.iret (v := ((40 : Int32) + ((2 : Int32) * a2))) hx hb hr (fun t ht hW => ⟨⟨((40 : Int32) + ((2 : Int32) * a2)), (), rfl, hw, by rw [ht]; exact hP, va_K.moved hW.alike hX.1, hD⟩, hS.F ht⟩) hS.2.2 dX0_least_58 hlocks
    rcases Classical.em (a1 = (2 : Int32)) with c_9 | c_9
    · refine lv_tableIn (tgt := 59) hx hb dX0_least_15 (by rw [c_9]; decide) (by rw [c_9]; decide) (by rw [c_9]; rfl) (by decide) ?_
      have hw := hw1 c_9
      refine lv_bipush (v := (20 : Int32)) hx hb dX0_least_59 (by decide) ?_
      exact W.iret (v := (20 : Int32)) hx hb hr (fun t ht hW => ⟨⟨(20 : Int32), (), rfl, hw, by rw [ht]; exact hP, va_K.moved hW.alike hX.1, hD⟩, hS.F ht⟩) hS.2.2 dX0_least_61 hlocks
    rcases Classical.em (a1 = (3 : Int32)) with c_10 | c_10
    · refine lv_tableIn (tgt := 62) hx hb dX0_least_15 (by rw [c_10]; decide) (by rw [c_10]; decide) (by rw [c_10]; rfl) (by decide) ?_
      have hw := hw2 c_10
      refine lv_iload_n hx hb dX0_least_62 rfl (lv_at hl 0 rfl) ?_
      exact W.iret (v := (30 : Int32)) hx hb hr (fun t ht hW => ⟨⟨(30 : Int32), (), rfl, hw, by rw [ht]; exact hP, va_K.moved hW.alike hX.1, hD⟩, hS.F ht⟩) hS.2.2 dX0_least_63 hlocks
    rcases Classical.em (a1 = (4 : Int32)) with c_11 | c_11
    · refine lv_tableIn (tgt := 64) hx hb dX0_least_15 (by rw [c_11]; decide) (by rw [c_11]; decide) (by rw [c_11]; rfl) (by decide) ?_
      have hw := hw3 c_11
      refine lv_bipush (v := (100 : Int32)) hx hb dX0_least_64 (by decide) ?_
      exact W.iret (v := (100 : Int32)) hx hb hr (fun t ht hW => ⟨⟨(100 : Int32), (), rfl, hw, by rw [ht]; exact hP, va_K.moved hW.alike hX.1, hD⟩, hS.F ht⟩) hS.2.2 dX0_least_66 hlocks
    rcases Classical.em (a1 = (5 : Int32)) with c_12 | c_12
    · refine lv_tableIn (tgt := 67) hx hb dX0_least_15 (by rw [c_12]; decide) (by rw [c_12]; decide) (by rw [c_12]; rfl) (by decide) ?_
      have hw := hw4 c_12
      refine lv_bipush (v := (20 : Int32)) hx hb dX0_least_67 (by decide) ?_
      refine lv_iload_n hx hb dX0_least_69 rfl (lv_at hl 2 rfl) ?_
      refine lv_isub hx hb dX0_least_70 ?_
      exact W.iret (v := ((20 : Int32) - a2)) hx hb hr (fun t ht hW => ⟨⟨((20 : Int32) - a2), (), rfl, hw, by rw [ht]; exact hP, va_K.moved hW.alike hX.1, hD⟩, hS.F ht⟩) hS.2.2 dX0_least_71 hlocks
    rcases Classical.em (a1 = (6 : Int32)) with c_13 | c_13
    · refine lv_tableIn (tgt := 72) hx hb dX0_least_15 (by rw [c_13]; decide) (by rw [c_13]; decide) (by rw [c_13]; rfl) (by decide) ?_
      have hw := hw5 c_13
      refine lv_iload_n hx hb dX0_least_72 rfl (lv_at hl 0 rfl) ?_
      refine lv_iload_n hx hb dX0_least_73 rfl (lv_at hl 2 rfl) ?_
      refine lv_iadd hx hb dX0_least_74 ?_
      exact W.iret (v := ((30 : Int32) + a2)) hx hb hr (fun t ht hW => ⟨⟨((30 : Int32) + a2), (), rfl, hw, by rw [ht]; exact hP, va_K.moved hW.alike hX.1, hD⟩, hS.F ht⟩) hS.2.2 dX0_least_75 hlocks
    refine lv_tableOut (tgt := 76) hx hb dX0_least_15 (by have i0 := vI_ne (z := 1) c_8 (by decide +kernel); have i1 := vI_ne (z := 2) c_9 (by decide +kernel); have i2 := vI_ne (z := 3) c_10 (by decide +kernel); have i3 := vI_ne (z := 4) c_11 (by decide +kernel); have i4 := vI_ne (z := 5) c_12 (by decide +kernel); have i5 := vI_ne (z := 6) c_13 (by decide +kernel); omega) (by decide) ?_
    have hw := hw6 c_8 c_9 c_10 c_11 c_12 c_13
    refine lv_bipush (v := (40 : Int32)) hx hb dX0_least_76 (by decide) ?_
    exact W.iret (v := (40 : Int32)) hx hb hr (fun t ht hW => ⟨⟨(40 : Int32), (), rfl, hw, by rw [ht]; exact hP, va_K.moved hW.alike hX.1, hD⟩, hS.F ht⟩) hS.2.2 dX0_least_78 hlocks
/-! OvenRings$Kinds.most(I)I -/
def wp_X0_most (a1 : Int32) (post : Int32 → Prop) : Prop := (a1 = (1 : Int32) → (post (300 : Int32))) ∧ (a1 = (2 : Int32) → (post (200 : Int32))) ∧ (a1 = (3 : Int32) → (post (200 : Int32))) ∧ (a1 = (4 : Int32) → (post (300 : Int32))) ∧ (a1 = (5 : Int32) → (post (60 : Int32))) ∧ (a1 = (6 : Int32) → (post (150 : Int32))) ∧ (¬ a1 = (1 : Int32) → ¬ a1 = (2 : Int32) → ¬ a1 = (3 : Int32) → ¬ a1 = (4 : Int32) → ¬ a1 = (5 : Int32) → ¬ a1 = (6 : Int32) → (post (200 : Int32)))
abbrev rm_X0_most : Room := { frames := 0, cells := 0, slots := 0, locals := 0 }
abbrev Qc_X0_most (K : vGl)     (post : Int32 → Prop) (A : Nat → Prop) : Array Value → State → Outcome → State → Prop := va_Qi (fun (r : Int32) (u : Unit) => post r ) (fun u t => vB K A [] t) A
set_option maxHeartbeats 4000000 in
set_option maxRecDepth 100000 in
theorem c_X0_most (l : Launch) (K : vGl)    (sz : Nat) (a1 : Int32) (post : Int32 → Prop) (hw : wp_X0_most a1 post) : Met l yX0_most (.code yX0_most cX0_most 1 (some .int) :: vT) rm_X0_most (va_Pc [.int a1] (vPre K [] sz)) (Qc_X0_most K  post (va_A [] sz)) 0 0 (va_A [] sz) := by
  unfold wp_X0_most at hw
  refine Met.ofW (cc := cX0_most) (maxL := 1) (ret := (some .int)) (by decide) rfl ?_
  intro p e s m args below meth c s₁ B hml hv
  obtain ⟨rfl, hsz, hP, hK, hD0, hG, hR⟩ := hv
  have hx := B.exec
  have hb := B.bytes
  have hr := B.returns
  have hts : ∀ w ∈ vT, w.before _ s = true := fun w h => atoms_spec (ws := .code yX0_most cX0_most 1 (some .int) :: vT) B.pre w (List.mem_cons_of_mem _ h)
  have hown : s.vm.findClass RX0 = some m.cls := findClass_of_methodNamed B.named
  have hlocks := B.notSynchronized
  subst hsz
  have hD := hD0.self (sz := s.heap.size)
  show W p l e (rm_X0_most) s m _ below meth c s.heap [] 0 0 _ _
  generalize hAe : va_A [] s.heap.size = A at hD hG ⊢
  have hX : vX K A s := ⟨hK, hG, hR, fun q h => by rw [← hAe]; exact Or.inr h⟩
  have hS : va_S A s.heap s.heap [] := va_S.rf
  have F : vFx p s m ([.int a1] : List Value).toArray meth c cX0_most RX0 1 (some .int) := ⟨hx, hb, hml, hown, hts, hr, hlocks⟩
  have hl := lv_entry ([.int a1]) (n := 1) (Nat.le_of_ble_eq_true rfl)
  rw [lg_entry_eq]
  generalize (lg_sl ([.int a1]) ++ List.replicate (1 - (lg_sl ([.int a1])).length) Slot.unset).toArray = ls at hl ⊢
  have hl : lv_has ls 1 [(0, .int a1)] := hl
  obtain ⟨H, hHe⟩ : ∃ H, H = s.heap := ⟨_, rfl⟩
  have hS : va_S A s.heap H [] := by rw [hHe]; exact hS
  have hP : va_P K.1 vwCl [] H := by rw [hHe]; exact hP
  refine vWH hHe ?_
  refine lv_iload_n hx hb dX0_most_0 rfl (lv_at hl 0 rfl) ?_
  rcases hw with ⟨hw0, hw1, hw2, hw3, hw4, hw5, hw6⟩
  rcases Classical.em (a1 = (1 : Int32)) with c_1 | c_1
  · refine lv_tableIn (tgt := 40) hx hb dX0_most_1 (by rw [c_1]; decide) (by rw [c_1]; decide) (by rw [c_1]; rfl) (by decide) ?_
    have hw := hw0 c_1
    refine lv_sipush (v := (300 : Int32)) hx hb dX0_most_40 (by decide) ?_
    exact W.iret (v := (300 : Int32)) hx hb hr (fun t ht hW => ⟨⟨(300 : Int32), (), rfl, hw, by rw [ht]; exact hP, va_K.moved hW.alike hX.1, hD⟩, hS.F ht⟩) hS.2.2 dX0_most_43 hlocks
  rcases Classical.em (a1 = (2 : Int32)) with c_2 | c_2
  · refine lv_tableIn (tgt := 51) hx hb dX0_most_1 (by rw [c_2]; decide) (by rw [c_2]; decide) (by rw [c_2]; rfl) (by decide) ?_
    have hw := hw1 c_2
    refine lv_sipush (v := (200 : Int32)) hx hb dX0_most_51 (by decide) ?_
    exact W.iret (v := (200 : Int32)) hx hb hr (fun t ht hW => ⟨⟨(200 : Int32), (), rfl, hw, by rw [ht]; exact hP, va_K.moved hW.alike hX.1, hD⟩, hS.F ht⟩) hS.2.2 dX0_most_54 hlocks
  rcases Classical.em (a1 = (3 : Int32)) with c_3 | c_3
  · refine lv_tableIn (tgt := 51) hx hb dX0_most_1 (by rw [c_3]; decide) (by rw [c_3]; decide) (by rw [c_3]; rfl) (by decide) ?_
    have hw := hw2 c_3
    refine lv_sipush (v := (200 : Int32)) hx hb dX0_most_51 (by decide) ?_
    exact W.iret (v := (200 : Int32)) hx hb hr (fun t ht hW => ⟨⟨(200 : Int32), (), rfl, hw, by rw [ht]; exact hP, va_K.moved hW.alike hX.1, hD⟩, hS.F ht⟩) hS.2.2 dX0_most_54 hlocks
  rcases Classical.em (a1 = (4 : Int32)) with c_4 | c_4
  · refine lv_tableIn (tgt := 40) hx hb dX0_most_1 (by rw [c_4]; decide) (by rw [c_4]; decide) (by rw [c_4]; rfl) (by decide) ?_
    have hw := hw3 c_4
    refine lv_sipush (v := (300 : Int32)) hx hb dX0_most_40 (by decide) ?_
    exact W.iret (v := (300 : Int32)) hx hb hr (fun t ht hW => ⟨⟨(300 : Int32), (), rfl, hw, by rw [ht]; exact hP, va_K.moved hW.alike hX.1, hD⟩, hS.F ht⟩) hS.2.2 dX0_most_43 hlocks
  rcases Classical.em (a1 = (5 : Int32)) with c_5 | c_5
  · refine lv_tableIn (tgt := 44) hx hb dX0_most_1 (by rw [c_5]; decide) (by rw [c_5]; decide) (by rw [c_5]; rfl) (by decide) ?_
    have hw := hw4 c_5
    refine lv_bipush (v := (60 : Int32)) hx hb dX0_most_44 (by decide) ?_
    exact W.iret (v := (60 : Int32)) hx hb hr (fun t ht hW => ⟨⟨(60 : Int32), (), rfl, hw, by rw [ht]; exact hP, va_K.moved hW.alike hX.1, hD⟩, hS.F ht⟩) hS.2.2 dX0_most_46 hlocks
  rcases Classical.em (a1 = (6 : Int32)) with c_6 | c_6
  · refine lv_tableIn (tgt := 47) hx hb dX0_most_1 (by rw [c_6]; decide) (by rw [c_6]; decide) (by rw [c_6]; rfl) (by decide) ?_
    have hw := hw5 c_6
    refine lv_sipush (v := (150 : Int32)) hx hb dX0_most_47 (by decide) ?_
    exact W.iret (v := (150 : Int32)) hx hb hr (fun t ht hW => ⟨⟨(150 : Int32), (), rfl, hw, by rw [ht]; exact hP, va_K.moved hW.alike hX.1, hD⟩, hS.F ht⟩) hS.2.2 dX0_most_50 hlocks
  refine lv_tableOut (tgt := 51) hx hb dX0_most_1 (by have i0 := vI_ne (z := 1) c_1 (by decide +kernel); have i1 := vI_ne (z := 2) c_2 (by decide +kernel); have i2 := vI_ne (z := 3) c_3 (by decide +kernel); have i3 := vI_ne (z := 4) c_4 (by decide +kernel); have i4 := vI_ne (z := 5) c_5 (by decide +kernel); have i5 := vI_ne (z := 6) c_6 (by decide +kernel); omega) (by decide) ?_
  have hw := hw6 c_1 c_2 c_3 c_4 c_5 c_6
  refine lv_sipush (v := (200 : Int32)) hx hb dX0_most_51 (by decide) ?_
  exact W.iret (v := (200 : Int32)) hx hb hr (fun t ht hW => ⟨⟨(200 : Int32), (), rfl, hw, by rw [ht]; exact hP, va_K.moved hW.alike hX.1, hD⟩, hS.F ht⟩) hS.2.2 dX0_most_54 hlocks
/-! OvenRings$Kinds.takes(II)I -/
def wp_X0_takes (a1 : Int32) (a2 : Int32) (post : Int32 → Prop) : Prop := (a1 = (1 : Int32) → (post (6 : Int32))) ∧ (a1 = (2 : Int32) → (post (1 : Int32))) ∧ (a1 = (3 : Int32) → (post (2 : Int32))) ∧ (a1 = (4 : Int32) → (post (0 : Int32))) ∧ (a1 = (5 : Int32) → (post ((1 : Int32) + (vrem a2 (5 : Int32))))) ∧ (¬ a1 = (1 : Int32) → ¬ a1 = (2 : Int32) → ¬ a1 = (3 : Int32) → ¬ a1 = (4 : Int32) → ¬ a1 = (5 : Int32) → (post (2 : Int32)))
abbrev rm_X0_takes : Room := { frames := 0, cells := 0, slots := 0, locals := 0 }
abbrev Qc_X0_takes (K : vGl)     (post : Int32 → Prop) (A : Nat → Prop) : Array Value → State → Outcome → State → Prop := va_Qi (fun (r : Int32) (u : Unit) => post r ) (fun u t => vB K A [] t) A
set_option maxHeartbeats 4000000 in
set_option maxRecDepth 100000 in
theorem c_X0_takes (l : Launch) (K : vGl)    (sz : Nat) (a1 : Int32) (a2 : Int32) (post : Int32 → Prop) (hw : wp_X0_takes a1 a2 post) : Met l yX0_takes (.code yX0_takes cX0_takes 2 (some .int) :: vT) rm_X0_takes (va_Pc [.int a1, .int a2] (vPre K [] sz)) (Qc_X0_takes K  post (va_A [] sz)) 0 0 (va_A [] sz) := by
  unfold wp_X0_takes at hw
  refine Met.ofW (cc := cX0_takes) (maxL := 2) (ret := (some .int)) (by decide) rfl ?_
  intro p e s m args below meth c s₁ B hml hv
  obtain ⟨rfl, hsz, hP, hK, hD0, hG, hR⟩ := hv
  have hx := B.exec
  have hb := B.bytes
  have hr := B.returns
  have hts : ∀ w ∈ vT, w.before _ s = true := fun w h => atoms_spec (ws := .code yX0_takes cX0_takes 2 (some .int) :: vT) B.pre w (List.mem_cons_of_mem _ h)
  have hown : s.vm.findClass RX0 = some m.cls := findClass_of_methodNamed B.named
  have hlocks := B.notSynchronized
  subst hsz
  have hD := hD0.self (sz := s.heap.size)
  show W p l e (rm_X0_takes) s m _ below meth c s.heap [] 0 0 _ _
  generalize hAe : va_A [] s.heap.size = A at hD hG ⊢
  have hX : vX K A s := ⟨hK, hG, hR, fun q h => by rw [← hAe]; exact Or.inr h⟩
  have hS : va_S A s.heap s.heap [] := va_S.rf
  have F : vFx p s m ([.int a1, .int a2] : List Value).toArray meth c cX0_takes RX0 2 (some .int) := ⟨hx, hb, hml, hown, hts, hr, hlocks⟩
  have hl := lv_entry ([.int a1, .int a2]) (n := 2) (Nat.le_of_ble_eq_true rfl)
  rw [lg_entry_eq]
  generalize (lg_sl ([.int a1, .int a2]) ++ List.replicate (2 - (lg_sl ([.int a1, .int a2])).length) Slot.unset).toArray = ls at hl ⊢
  have hl : lv_has ls 2 [(0, .int a1), (1, .int a2)] := hl
  obtain ⟨H, hHe⟩ : ∃ H, H = s.heap := ⟨_, rfl⟩
  have hS : va_S A s.heap H [] := by rw [hHe]; exact hS
  have hP : va_P K.1 vwCl [] H := by rw [hHe]; exact hP
  refine vWH hHe ?_
  refine lv_iload_n hx hb dX0_takes_0 rfl (lv_at hl 0 rfl) ?_
  rcases hw with ⟨hw0, hw1, hw2, hw3, hw4, hw5⟩
  rcases Classical.em (a1 = (1 : Int32)) with c_1 | c_1
  · refine lv_tableIn (tgt := 36) hx hb dX0_takes_1 (by rw [c_1]; decide) (by rw [c_1]; decide) (by rw [c_1]; rfl) (by decide) ?_
    have hw := hw0 c_1
    refine lv_bipush (v := (6 : Int32)) hx hb dX0_takes_36 (by decide) ?_
    exact W.iret (v := (6 : Int32)) hx hb hr (fun t ht hW => ⟨⟨(6 : Int32), (), rfl, hw, by rw [ht]; exact hP, va_K.moved hW.alike hX.1, hD⟩, hS.F ht⟩) hS.2.2 dX0_takes_38 hlocks
  rcases Classical.em (a1 = (2 : Int32)) with c_2 | c_2
  · refine lv_tableIn (tgt := 39) hx hb dX0_takes_1 (by rw [c_2]; decide) (by rw [c_2]; decide) (by rw [c_2]; rfl) (by decide) ?_
    have hw := hw1 c_2
    refine lv_iconst (v := (1 : Int32)) hx hb dX0_takes_39 (by decide) ?_
    exact W.iret (v := (1 : Int32)) hx hb hr (fun t ht hW => ⟨⟨(1 : Int32), (), rfl, hw, by rw [ht]; exact hP, va_K.moved hW.alike hX.1, hD⟩, hS.F ht⟩) hS.2.2 dX0_takes_40 hlocks
  rcases Classical.em (a1 = (3 : Int32)) with c_3 | c_3
  · refine lv_tableIn (tgt := 49) hx hb dX0_takes_1 (by rw [c_3]; decide) (by rw [c_3]; decide) (by rw [c_3]; rfl) (by decide) ?_
    have hw := hw2 c_3
    refine lv_iconst (v := (2 : Int32)) hx hb dX0_takes_49 (by decide) ?_
    exact W.iret (v := (2 : Int32)) hx hb hr (fun t ht hW => ⟨⟨(2 : Int32), (), rfl, hw, by rw [ht]; exact hP, va_K.moved hW.alike hX.1, hD⟩, hS.F ht⟩) hS.2.2 dX0_takes_50 hlocks
  rcases Classical.em (a1 = (4 : Int32)) with c_4 | c_4
  · refine lv_tableIn (tgt := 41) hx hb dX0_takes_1 (by rw [c_4]; decide) (by rw [c_4]; decide) (by rw [c_4]; rfl) (by decide) ?_
    have hw := hw3 c_4
    refine lv_iconst (v := (0 : Int32)) hx hb dX0_takes_41 (by decide) ?_
    exact W.iret (v := (0 : Int32)) hx hb hr (fun t ht hW => ⟨⟨(0 : Int32), (), rfl, hw, by rw [ht]; exact hP, va_K.moved hW.alike hX.1, hD⟩, hS.F ht⟩) hS.2.2 dX0_takes_42 hlocks
  rcases Classical.em (a1 = (5 : Int32)) with c_5 | c_5
  · refine lv_tableIn (tgt := 43) hx hb dX0_takes_1 (by rw [c_5]; decide) (by rw [c_5]; decide) (by rw [c_5]; rfl) (by decide) ?_
    have hw := hw4 c_5
    refine lv_iconst (v := (1 : Int32)) hx hb dX0_takes_43 (by decide) ?_
    refine lv_iload_n hx hb dX0_takes_44 rfl (lv_at hl 1 rfl) ?_
    refine lv_iconst (v := (5 : Int32)) hx hb dX0_takes_45 (by decide) ?_
    refine lv_irem hx hb dX0_takes_46 (by decide) ?_
    refine lv_iadd hx hb dX0_takes_47 ?_
    exact W.iret (v := ((1 : Int32) + (vrem a2 (5 : Int32)))) hx hb hr (fun t ht hW => ⟨⟨((1 : Int32) + (vrem a2 (5 : Int32))), (), rfl, hw, by rw [ht]; exact hP, va_K.moved hW.alike hX.1, hD⟩, hS.F ht⟩) hS.2.2 dX0_takes_48 hlocks
  refine lv_tableOut (tgt := 49) hx hb dX0_takes_1 (by have i0 := vI_ne (z := 1) c_1 (by decide +kernel); have i1 := vI_ne (z := 2) c_2 (by decide +kernel); have i2 := vI_ne (z := 3) c_3 (by decide +kernel); have i3 := vI_ne (z := 4) c_4 (by decide +kernel); have i4 := vI_ne (z := 5) c_5 (by decide +kernel); omega) (by decide) ?_
  have hw := hw5 c_1 c_2 c_3 c_4 c_5
  refine lv_iconst (v := (2 : Int32)) hx hb dX0_takes_49 (by decide) ?_
  exact W.iret (v := (2 : Int32)) hx hb hr (fun t ht hW => ⟨⟨(2 : Int32), (), rfl, hw, by rw [ht]; exact hP, va_K.moved hW.alike hX.1, hD⟩, hS.F ht⟩) hS.2.2 dX0_takes_50 hlocks
/-! OvenRings$Law.works(III)I -/
def wp_X1_works (a1 : Int32) (a2 : Int32) (a3 : Int32) (post : Int32 → Prop) : Prop := (a1 = (38 : Int32) → ((a2 = 0 → (post (0 : Int32))) ∧ (¬ a2 = 0 → ((a3 = 0 → (post (0 : Int32))) ∧ (¬ a3 = 0 → (post (1 : Int32))))))) ∧ (a1 = (42 : Int32) → (post (a2 * a3))) ∧ (a1 = (43 : Int32) → (post (a2 + a3))) ∧ (a1 = (45 : Int32) → (post (a2 - a3))) ∧ (a1 = (47 : Int32) → ((a3 = 0 → (post (0 : Int32))) ∧ (¬ a3 = 0 → ((¬ a3 = 0) ∧ (post (a2 / a3)))))) ∧ (a1 = (60 : Int32) → ((a3 ≤ a2 → (post (0 : Int32))) ∧ (¬ a3 ≤ a2 → (post (1 : Int32))))) ∧ (a1 = (61 : Int32) → ((a2 = a3 → (post (1 : Int32))) ∧ (¬ a2 = a3 → (post (0 : Int32))))) ∧ (a1 = (62 : Int32) → ((a2 ≤ a3 → (post (0 : Int32))) ∧ (¬ a2 ≤ a3 → (post (1 : Int32))))) ∧ (a1 = (124 : Int32) → ((a2 = 0 → ((a3 = 0 → (post (0 : Int32))) ∧ (¬ a3 = 0 → (post (1 : Int32))))) ∧ (¬ a2 = 0 → (post (1 : Int32))))) ∧ (¬ a1 = (38 : Int32) → ¬ a1 = (42 : Int32) → ¬ a1 = (43 : Int32) → ¬ a1 = (45 : Int32) → ¬ a1 = (47 : Int32) → ¬ a1 = (60 : Int32) → ¬ a1 = (61 : Int32) → ¬ a1 = (62 : Int32) → ¬ a1 = (124 : Int32) → ((a3 = 0 → (post (0 : Int32))) ∧ (¬ a3 = 0 → ((¬ a3 = 0) ∧ (post (vrem a2 a3))))))
abbrev rm_X1_works : Room := { frames := 0, cells := 0, slots := 0, locals := 0 }
abbrev Qc_X1_works (K : vGl)     (post : Int32 → Prop) (A : Nat → Prop) : Array Value → State → Outcome → State → Prop := va_Qi (fun (r : Int32) (u : Unit) => post r ) (fun u t => vB K A [] t) A
set_option maxHeartbeats 4000000 in
set_option maxRecDepth 100000 in
theorem c_X1_works (l : Launch) (K : vGl)    (sz : Nat) (a1 : Int32) (a2 : Int32) (a3 : Int32) (post : Int32 → Prop) (hw : wp_X1_works a1 a2 a3 post) : Met l yX1_works (.code yX1_works cX1_works 3 (some .int) :: vT) rm_X1_works (va_Pc [.int a1, .int a2, .int a3] (vPre K [] sz)) (Qc_X1_works K  post (va_A [] sz)) 0 0 (va_A [] sz) := by
  unfold wp_X1_works at hw
  refine Met.ofW (cc := cX1_works) (maxL := 3) (ret := (some .int)) (by decide) rfl ?_
  intro p e s m args below meth c s₁ B hml hv
  obtain ⟨rfl, hsz, hP, hK, hD0, hG, hR⟩ := hv
  have hx := B.exec
  have hb := B.bytes
  have hr := B.returns
  have hts : ∀ w ∈ vT, w.before _ s = true := fun w h => atoms_spec (ws := .code yX1_works cX1_works 3 (some .int) :: vT) B.pre w (List.mem_cons_of_mem _ h)
  have hown : s.vm.findClass RX1 = some m.cls := findClass_of_methodNamed B.named
  have hlocks := B.notSynchronized
  subst hsz
  have hD := hD0.self (sz := s.heap.size)
  show W p l e (rm_X1_works) s m _ below meth c s.heap [] 0 0 _ _
  generalize hAe : va_A [] s.heap.size = A at hD hG ⊢
  have hX : vX K A s := ⟨hK, hG, hR, fun q h => by rw [← hAe]; exact Or.inr h⟩
  have hS : va_S A s.heap s.heap [] := va_S.rf
  have F : vFx p s m ([.int a1, .int a2, .int a3] : List Value).toArray meth c cX1_works RX1 3 (some .int) := ⟨hx, hb, hml, hown, hts, hr, hlocks⟩
  have hl := lv_entry ([.int a1, .int a2, .int a3]) (n := 3) (Nat.le_of_ble_eq_true rfl)
  rw [lg_entry_eq]
  generalize (lg_sl ([.int a1, .int a2, .int a3]) ++ List.replicate (3 - (lg_sl ([.int a1, .int a2, .int a3])).length) Slot.unset).toArray = ls at hl ⊢
  have hl : lv_has ls 3 [(0, .int a1), (1, .int a2), (2, .int a3)] := hl
  obtain ⟨H, hHe⟩ : ∃ H, H = s.heap := ⟨_, rfl⟩
  have hS : va_S A s.heap H [] := by rw [hHe]; exact hS
  have hP : va_P K.1 vwCl [] H := by rw [hHe]; exact hP
  refine vWH hHe ?_
  refine lv_iload_n hx hb dX1_works_0 rfl (lv_at hl 0 rfl) ?_
  rcases hw with ⟨hw0, hw1, hw2, hw3, hw4, hw5, hw6, hw7, hw8, hw9⟩
  rcases Classical.em (a1 = (38 : Int32)) with c_3 | c_3
  · refine lv_lookup (off := 97) (tgt := 98) hx hb dX1_works_1 (by decide) (lkp c_3 (by decide +kernel)) (by decide) ?_
    have hw := hw0 c_3
    refine lv_iload_n hx hb dX1_works_98 rfl (lv_at hl 1 rfl) ?_
    refine lv_if_eq (tgt := 110) hx hb dX1_works_99 (by decide) (fun c_1 => ?_) (fun c_1 => ?_)
    · have hw := hw.1 c_1
      refine lv_iconst (v := (0 : Int32)) hx hb dX1_works_110 (by decide) ?_
      exact W.iret (v := (0 : Int32)) hx hb hr (fun t ht hW => ⟨⟨(0 : Int32), (), rfl, hw, by rw [ht]; exact hP, va_K.moved hW.alike hX.1, hD⟩, hS.F ht⟩) hS.2.2 dX1_works_111 hlocks
    · have hw := hw.2 c_1
      refine lv_iload_n hx hb dX1_works_102 rfl (lv_at hl 2 rfl) ?_
      refine lv_if_eq (tgt := 110) hx hb dX1_works_103 (by decide) (fun c_2 => ?_) (fun c_2 => ?_)
      · have hw := hw.1 c_2
        refine lv_iconst (v := (0 : Int32)) hx hb dX1_works_110 (by decide) ?_
        exact W.iret (v := (0 : Int32)) hx hb hr (fun t ht hW => ⟨⟨(0 : Int32), (), rfl, hw, by rw [ht]; exact hP, va_K.moved hW.alike hX.1, hD⟩, hS.F ht⟩) hS.2.2 dX1_works_111 hlocks
      · have hw := hw.2 c_2
        refine lv_iconst (v := (1 : Int32)) hx hb dX1_works_106 (by decide) ?_
        refine lv_goto (tgt := 111) hx hb dX1_works_107 (by decide) ?_
        exact W.iret (v := (1 : Int32)) hx hb hr (fun t ht hW => ⟨⟨(1 : Int32), (), rfl, hw, by rw [ht]; exact hP, va_K.moved hW.alike hX.1, hD⟩, hS.F ht⟩) hS.2.2 dX1_works_111 hlocks
  rcases Classical.em (a1 = (42 : Int32)) with c_4 | c_4
  · refine lv_lookup (off := 152) (tgt := 153) hx hb dX1_works_1 (by decide) (lkp c_4 (by decide +kernel)) (by decide) ?_
    have hw := hw1 c_4
    refine lv_iload_n hx hb dX1_works_153 rfl (lv_at hl 1 rfl) ?_
    refine lv_iload_n hx hb dX1_works_154 rfl (lv_at hl 2 rfl) ?_
    refine lv_imul hx hb dX1_works_155 ?_
    exact W.iret (v := (a2 * a3)) hx hb hr (fun t ht hW => ⟨⟨(a2 * a3), (), rfl, hw, by rw [ht]; exact hP, va_K.moved hW.alike hX.1, hD⟩, hS.F ht⟩) hS.2.2 dX1_works_156 hlocks
  rcases Classical.em (a1 = (43 : Int32)) with c_5 | c_5
  · refine lv_lookup (off := 144) (tgt := 145) hx hb dX1_works_1 (by decide) (lkp c_5 (by decide +kernel)) (by decide) ?_
    have hw := hw2 c_5
    refine lv_iload_n hx hb dX1_works_145 rfl (lv_at hl 1 rfl) ?_
    refine lv_iload_n hx hb dX1_works_146 rfl (lv_at hl 2 rfl) ?_
    refine lv_iadd hx hb dX1_works_147 ?_
    exact W.iret (v := (a2 + a3)) hx hb hr (fun t ht hW => ⟨⟨(a2 + a3), (), rfl, hw, by rw [ht]; exact hP, va_K.moved hW.alike hX.1, hD⟩, hS.F ht⟩) hS.2.2 dX1_works_148 hlocks
  rcases Classical.em (a1 = (45 : Int32)) with c_6 | c_6
  · refine lv_lookup (off := 148) (tgt := 149) hx hb dX1_works_1 (by decide) (lkp c_6 (by decide +kernel)) (by decide) ?_
    have hw := hw3 c_6
    refine lv_iload_n hx hb dX1_works_149 rfl (lv_at hl 1 rfl) ?_
    refine lv_iload_n hx hb dX1_works_150 rfl (lv_at hl 2 rfl) ?_
    refine lv_isub hx hb dX1_works_151 ?_
    exact W.iret (v := (a2 - a3)) hx hb hr (fun t ht hW => ⟨⟨(a2 - a3), (), rfl, hw, by rw [ht]; exact hP, va_K.moved hW.alike hX.1, hD⟩, hS.F ht⟩) hS.2.2 dX1_works_152 hlocks
  rcases Classical.em (a1 = (47 : Int32)) with c_8 | c_8
  · refine lv_lookup (off := 156) (tgt := 157) hx hb dX1_works_1 (by decide) (lkp c_8 (by decide +kernel)) (by decide) ?_
    have hw := hw4 c_8
    refine lv_iload_n hx hb dX1_works_157 rfl (lv_at hl 2 rfl) ?_
    refine lv_if_ne (tgt := 165) hx hb dX1_works_158 (by decide) (fun c_7 => ?_) (fun c_7 => ?_)
    · have hw := hw.2 c_7
      refine lv_iload_n hx hb dX1_works_165 rfl (lv_at hl 1 rfl) ?_
      refine lv_iload_n hx hb dX1_works_166 rfl (lv_at hl 2 rfl) ?_
      refine lv_idiv hx hb dX1_works_167 hw.1 ?_
      have hw := hw.2
      exact W.iret (v := (a2 / a3)) hx hb hr (fun t ht hW => ⟨⟨(a2 / a3), (), rfl, hw, by rw [ht]; exact hP, va_K.moved hW.alike hX.1, hD⟩, hS.F ht⟩) hS.2.2 dX1_works_168 hlocks
    · have hw := hw.1 c_7
      refine lv_iconst (v := (0 : Int32)) hx hb dX1_works_161 (by decide) ?_
      refine lv_goto (tgt := 168) hx hb dX1_works_162 (by decide) ?_
      exact W.iret (v := (0 : Int32)) hx hb hr (fun t ht hW => ⟨⟨(0 : Int32), (), rfl, hw, by rw [ht]; exact hP, va_K.moved hW.alike hX.1, hD⟩, hS.F ht⟩) hS.2.2 dX1_works_168 hlocks
  rcases Classical.em (a1 = (60 : Int32)) with c_10 | c_10
  · refine lv_lookup (off := 111) (tgt := 112) hx hb dX1_works_1 (by decide) (lkp c_10 (by decide +kernel)) (by decide) ?_
    have hw := hw5 c_10
    refine lv_iload_n hx hb dX1_works_112 rfl (lv_at hl 1 rfl) ?_
    refine lv_iload_n hx hb dX1_works_113 rfl (lv_at hl 2 rfl) ?_
    refine lv_icmp_ge (tgt := 121) hx hb dX1_works_114 (by decide) (fun c_9 => ?_) (fun c_9 => ?_)
    · have hw := hw.1 c_9
      refine lv_iconst (v := (0 : Int32)) hx hb dX1_works_121 (by decide) ?_
      exact W.iret (v := (0 : Int32)) hx hb hr (fun t ht hW => ⟨⟨(0 : Int32), (), rfl, hw, by rw [ht]; exact hP, va_K.moved hW.alike hX.1, hD⟩, hS.F ht⟩) hS.2.2 dX1_works_122 hlocks
    · have hw := hw.2 c_9
      refine lv_iconst (v := (1 : Int32)) hx hb dX1_works_117 (by decide) ?_
      refine lv_goto (tgt := 122) hx hb dX1_works_118 (by decide) ?_
      exact W.iret (v := (1 : Int32)) hx hb hr (fun t ht hW => ⟨⟨(1 : Int32), (), rfl, hw, by rw [ht]; exact hP, va_K.moved hW.alike hX.1, hD⟩, hS.F ht⟩) hS.2.2 dX1_works_122 hlocks
  rcases Classical.em (a1 = (61 : Int32)) with c_12 | c_12
  · refine lv_lookup (off := 122) (tgt := 123) hx hb dX1_works_1 (by decide) (lkp c_12 (by decide +kernel)) (by decide) ?_
    have hw := hw6 c_12
    refine lv_iload_n hx hb dX1_works_123 rfl (lv_at hl 1 rfl) ?_
    refine lv_iload_n hx hb dX1_works_124 rfl (lv_at hl 2 rfl) ?_
    refine lv_icmp_ne (tgt := 132) hx hb dX1_works_125 (by decide) (fun c_11 => ?_) (fun c_11 => ?_)
    · have hw := hw.2 c_11
      refine lv_iconst (v := (0 : Int32)) hx hb dX1_works_132 (by decide) ?_
      exact W.iret (v := (0 : Int32)) hx hb hr (fun t ht hW => ⟨⟨(0 : Int32), (), rfl, hw, by rw [ht]; exact hP, va_K.moved hW.alike hX.1, hD⟩, hS.F ht⟩) hS.2.2 dX1_works_133 hlocks
    · have hw := hw.1 c_11
      refine lv_iconst (v := (1 : Int32)) hx hb dX1_works_128 (by decide) ?_
      refine lv_goto (tgt := 133) hx hb dX1_works_129 (by decide) ?_
      exact W.iret (v := (1 : Int32)) hx hb hr (fun t ht hW => ⟨⟨(1 : Int32), (), rfl, hw, by rw [ht]; exact hP, va_K.moved hW.alike hX.1, hD⟩, hS.F ht⟩) hS.2.2 dX1_works_133 hlocks
  rcases Classical.em (a1 = (62 : Int32)) with c_14 | c_14
  · refine lv_lookup (off := 133) (tgt := 134) hx hb dX1_works_1 (by decide) (lkp c_14 (by decide +kernel)) (by decide) ?_
    have hw := hw7 c_14
    refine lv_iload_n hx hb dX1_works_134 rfl (lv_at hl 1 rfl) ?_
    refine lv_iload_n hx hb dX1_works_135 rfl (lv_at hl 2 rfl) ?_
    refine lv_icmp_le (tgt := 143) hx hb dX1_works_136 (by decide) (fun c_13 => ?_) (fun c_13 => ?_)
    · have hw := hw.1 c_13
      refine lv_iconst (v := (0 : Int32)) hx hb dX1_works_143 (by decide) ?_
      exact W.iret (v := (0 : Int32)) hx hb hr (fun t ht hW => ⟨⟨(0 : Int32), (), rfl, hw, by rw [ht]; exact hP, va_K.moved hW.alike hX.1, hD⟩, hS.F ht⟩) hS.2.2 dX1_works_144 hlocks
    · have hw := hw.2 c_13
      refine lv_iconst (v := (1 : Int32)) hx hb dX1_works_139 (by decide) ?_
      refine lv_goto (tgt := 144) hx hb dX1_works_140 (by decide) ?_
      exact W.iret (v := (1 : Int32)) hx hb hr (fun t ht hW => ⟨⟨(1 : Int32), (), rfl, hw, by rw [ht]; exact hP, va_K.moved hW.alike hX.1, hD⟩, hS.F ht⟩) hS.2.2 dX1_works_144 hlocks
  rcases Classical.em (a1 = (124 : Int32)) with c_17 | c_17
  · refine lv_lookup (off := 83) (tgt := 84) hx hb dX1_works_1 (by decide) (lkp c_17 (by decide +kernel)) (by decide) ?_
    have hw := hw8 c_17
    refine lv_iload_n hx hb dX1_works_84 rfl (lv_at hl 1 rfl) ?_
    refine lv_if_ne (tgt := 92) hx hb dX1_works_85 (by decide) (fun c_15 => ?_) (fun c_15 => ?_)
    · have hw := hw.2 c_15
      refine lv_iconst (v := (1 : Int32)) hx hb dX1_works_92 (by decide) ?_
      refine lv_goto (tgt := 97) hx hb dX1_works_93 (by decide) ?_
      exact W.iret (v := (1 : Int32)) hx hb hr (fun t ht hW => ⟨⟨(1 : Int32), (), rfl, hw, by rw [ht]; exact hP, va_K.moved hW.alike hX.1, hD⟩, hS.F ht⟩) hS.2.2 dX1_works_97 hlocks
    · have hw := hw.1 c_15
      refine lv_iload_n hx hb dX1_works_88 rfl (lv_at hl 2 rfl) ?_
      refine lv_if_eq (tgt := 96) hx hb dX1_works_89 (by decide) (fun c_16 => ?_) (fun c_16 => ?_)
      · have hw := hw.1 c_16
        refine lv_iconst (v := (0 : Int32)) hx hb dX1_works_96 (by decide) ?_
        exact W.iret (v := (0 : Int32)) hx hb hr (fun t ht hW => ⟨⟨(0 : Int32), (), rfl, hw, by rw [ht]; exact hP, va_K.moved hW.alike hX.1, hD⟩, hS.F ht⟩) hS.2.2 dX1_works_97 hlocks
      · have hw := hw.2 c_16
        refine lv_iconst (v := (1 : Int32)) hx hb dX1_works_92 (by decide) ?_
        refine lv_goto (tgt := 97) hx hb dX1_works_93 (by decide) ?_
        exact W.iret (v := (1 : Int32)) hx hb hr (fun t ht hW => ⟨⟨(1 : Int32), (), rfl, hw, by rw [ht]; exact hP, va_K.moved hW.alike hX.1, hD⟩, hS.F ht⟩) hS.2.2 dX1_works_97 hlocks
  refine lv_lookup (off := 168) (tgt := 169) hx hb dX1_works_1 (by decide) (by have i0 := vI_ne (z := 38) c_3 (by decide +kernel); have i1 := vI_ne (z := 42) c_4 (by decide +kernel); have i2 := vI_ne (z := 43) c_5 (by decide +kernel); have i3 := vI_ne (z := 45) c_6 (by decide +kernel); have i4 := vI_ne (z := 47) c_8 (by decide +kernel); have i5 := vI_ne (z := 60) c_10 (by decide +kernel); have i6 := vI_ne (z := 61) c_12 (by decide +kernel); have i7 := vI_ne (z := 62) c_14 (by decide +kernel); have i8 := vI_ne (z := 124) c_17 (by decide +kernel); simp [Op.lookupswitch.offset, Ne.symm i0, i0, Ne.symm i1, i1, Ne.symm i2, i2, Ne.symm i3, i3, Ne.symm i4, i4, Ne.symm i5, i5, Ne.symm i6, i6, Ne.symm i7, i7, Ne.symm i8, i8]) (by decide) ?_
  have hw := hw9 c_3 c_4 c_5 c_6 c_8 c_10 c_12 c_14 c_17
  refine lv_iload_n hx hb dX1_works_169 rfl (lv_at hl 2 rfl) ?_
  refine lv_if_ne (tgt := 177) hx hb dX1_works_170 (by decide) (fun c_18 => ?_) (fun c_18 => ?_)
  · have hw := hw.2 c_18
    refine lv_iload_n hx hb dX1_works_177 rfl (lv_at hl 1 rfl) ?_
    refine lv_iload_n hx hb dX1_works_178 rfl (lv_at hl 2 rfl) ?_
    refine lv_irem hx hb dX1_works_179 hw.1 ?_
    have hw := hw.2
    exact W.iret (v := (vrem a2 a3)) hx hb hr (fun t ht hW => ⟨⟨(vrem a2 a3), (), rfl, hw, by rw [ht]; exact hP, va_K.moved hW.alike hX.1, hD⟩, hS.F ht⟩) hS.2.2 dX1_works_180 hlocks
  · have hw := hw.1 c_18
    refine lv_iconst (v := (0 : Int32)) hx hb dX1_works_173 (by decide) ?_
    refine lv_goto (tgt := 180) hx hb dX1_works_174 (by decide) ?_
    exact W.iret (v := (0 : Int32)) hx hb hr (fun t ht hW => ⟨⟨(0 : Int32), (), rfl, hw, by rw [ht]; exact hP, va_K.moved hW.alike hX.1, hD⟩, hS.F ht⟩) hS.2.2 dX1_works_180 hlocks
/-! OvenRings$Law.worth(III)I -/
def wp_X1_worth_b155  (C6 : Int32 → Int32 → (Nat → Int32) → Prop) (post : Int32 → (Nat → Int32) → Prop) (x4 : Int32) (x5 : Int32) (x6 : Int32) (v_pile : Nat → Int32) : Prop := (x4 < (2 : Int32) → (C6 x4 (x5 + (1 : Int32)) v_pile)) ∧ (¬ x4 < (2 : Int32) → (vp_in (x4 - (2 : Int32)) 50 ∧ (vp_in (x4 - (1 : Int32)) 50 ∧ (wp_X1_works (x6 - (20000 : Int32)) (v_pile (x4 - (2 : Int32)).toNatClampNeg) (v_pile (x4 - (1 : Int32)).toNatClampNeg) (fun r_6 => vp_in (x4 - (2 : Int32)) 50 ∧ (C6 (x4 + (-1 : Int32)) (x5 + (1 : Int32)) (upd v_pile (x4 - (2 : Int32)).toNatClampNeg r_6)))))))
def wp_X1_worth_b112  (C6 : Int32 → Int32 → (Nat → Int32) → Prop) (post : Int32 → (Nat → Int32) → Prop) (x4 : Int32) (x5 : Int32) (x6 : Int32) (v_pile : Nat → Int32) : Prop := (x6 = (20033 : Int32) → ((x4 < (1 : Int32) → (wp_X1_worth_b155 C6 post x4 x5 x6 v_pile)) ∧ (¬ x4 < (1 : Int32) → (vp_in (x4 - (1 : Int32)) 50 ∧ (((v_pile (x4 - (1 : Int32)).toNatClampNeg) = 0 → (vp_in (x4 - (1 : Int32)) 50 ∧ (C6 x4 (x5 + (1 : Int32)) (upd v_pile (x4 - (1 : Int32)).toNatClampNeg (1 : Int32))))) ∧ (¬ (v_pile (x4 - (1 : Int32)).toNatClampNeg) = 0 → (vp_in (x4 - (1 : Int32)) 50 ∧ (C6 x4 (x5 + (1 : Int32)) (upd v_pile (x4 - (1 : Int32)).toNatClampNeg (0 : Int32)))))))))) ∧ (¬ x6 = (20033 : Int32) → (wp_X1_worth_b155 C6 post x4 x5 x6 v_pile))
def wp_X1_worth_b6 (a1 : Int32) (a2 : Int32) (a3 : Int32) (v_steps_many : Int32) (v_steps_numbers : Nat → Int32)  (post : Int32 → (Nat → Int32) → Prop) : Nat → Int32 → Int32 → (Nat → Int32) → Prop
  | 0, _, _, _ => False
  | n + 1, x4, x5, v_pile => (v_steps_many ≤ x5 → (post (v_pile (0 : Int32).toNatClampNeg) v_pile)) ∧ (¬ v_steps_many ≤ x5 → (((50 : Int32) ≤ x5 → (post (v_pile (0 : Int32).toNatClampNeg) v_pile)) ∧ (¬ (50 : Int32) ≤ x5 → (vp_in x5 50 ∧ (((20000 : Int32) ≤ (v_steps_numbers x5.toNatClampNeg) → (wp_X1_worth_b112 (fun x4 x5 v_pile => wp_X1_worth_b6 a1 a2 a3 v_steps_many v_steps_numbers post n x4 x5 v_pile) post x4 x5 (v_steps_numbers x5.toNatClampNeg) v_pile)) ∧ (¬ (20000 : Int32) ≤ (v_steps_numbers x5.toNatClampNeg) → (((50 : Int32) ≤ x4 → (wp_X1_worth_b112 (fun x4 x5 v_pile => wp_X1_worth_b6 a1 a2 a3 v_steps_many v_steps_numbers post n x4 x5 v_pile) post x4 x5 (v_steps_numbers x5.toNatClampNeg) v_pile)) ∧ (¬ (50 : Int32) ≤ x4 → (((10000 : Int32) ≤ (v_steps_numbers x5.toNatClampNeg) → (((v_steps_numbers x5.toNatClampNeg) = (10000 : Int32) → (vp_in x4 50 ∧ (wp_X1_worth_b6 a1 a2 a3 v_steps_many v_steps_numbers post n (x4 + (1 : Int32)) (x5 + (1 : Int32)) (upd v_pile x4.toNatClampNeg a1)))) ∧ (¬ (v_steps_numbers x5.toNatClampNeg) = (10000 : Int32) → (((v_steps_numbers x5.toNatClampNeg) = (10001 : Int32) → (vp_in x4 50 ∧ (wp_X1_worth_b6 a1 a2 a3 v_steps_many v_steps_numbers post n (x4 + (1 : Int32)) (x5 + (1 : Int32)) (upd v_pile x4.toNatClampNeg a2)))) ∧ (¬ (v_steps_numbers x5.toNatClampNeg) = (10001 : Int32) → (vp_in x4 50 ∧ (wp_X1_worth_b6 a1 a2 a3 v_steps_many v_steps_numbers post n (x4 + (1 : Int32)) (x5 + (1 : Int32)) (upd v_pile x4.toNatClampNeg a3)))))))) ∧ (¬ (10000 : Int32) ≤ (v_steps_numbers x5.toNatClampNeg) → (vp_in x4 50 ∧ (wp_X1_worth_b6 a1 a2 a3 v_steps_many v_steps_numbers post n (x4 + (1 : Int32)) (x5 + (1 : Int32)) (upd v_pile x4.toNatClampNeg (v_steps_numbers x5.toNatClampNeg))))))))))))))
theorem u_X1_worth_b6 {a1 : Int32} {a2 : Int32} {a3 : Int32} {v_steps_many : Int32} {v_steps_numbers : Nat → Int32}  {post : Int32 → (Nat → Int32) → Prop} {n : Nat} {x4 : Int32} {x5 : Int32} {v_pile : Nat → Int32} (h : wp_X1_worth_b6 a1 a2 a3 v_steps_many v_steps_numbers post (n + 1) x4 x5 v_pile) : (v_steps_many ≤ x5 → (post (v_pile (0 : Int32).toNatClampNeg) v_pile)) ∧ (¬ v_steps_many ≤ x5 → (((50 : Int32) ≤ x5 → (post (v_pile (0 : Int32).toNatClampNeg) v_pile)) ∧ (¬ (50 : Int32) ≤ x5 → (vp_in x5 50 ∧ (((20000 : Int32) ≤ (v_steps_numbers x5.toNatClampNeg) → (wp_X1_worth_b112 (fun x4 x5 v_pile => wp_X1_worth_b6 a1 a2 a3 v_steps_many v_steps_numbers post n x4 x5 v_pile) post x4 x5 (v_steps_numbers x5.toNatClampNeg) v_pile)) ∧ (¬ (20000 : Int32) ≤ (v_steps_numbers x5.toNatClampNeg) → (((50 : Int32) ≤ x4 → (wp_X1_worth_b112 (fun x4 x5 v_pile => wp_X1_worth_b6 a1 a2 a3 v_steps_many v_steps_numbers post n x4 x5 v_pile) post x4 x5 (v_steps_numbers x5.toNatClampNeg) v_pile)) ∧ (¬ (50 : Int32) ≤ x4 → (((10000 : Int32) ≤ (v_steps_numbers x5.toNatClampNeg) → (((v_steps_numbers x5.toNatClampNeg) = (10000 : Int32) → (vp_in x4 50 ∧ (wp_X1_worth_b6 a1 a2 a3 v_steps_many v_steps_numbers post n (x4 + (1 : Int32)) (x5 + (1 : Int32)) (upd v_pile x4.toNatClampNeg a1)))) ∧ (¬ (v_steps_numbers x5.toNatClampNeg) = (10000 : Int32) → (((v_steps_numbers x5.toNatClampNeg) = (10001 : Int32) → (vp_in x4 50 ∧ (wp_X1_worth_b6 a1 a2 a3 v_steps_many v_steps_numbers post n (x4 + (1 : Int32)) (x5 + (1 : Int32)) (upd v_pile x4.toNatClampNeg a2)))) ∧ (¬ (v_steps_numbers x5.toNatClampNeg) = (10001 : Int32) → (vp_in x4 50 ∧ (wp_X1_worth_b6 a1 a2 a3 v_steps_many v_steps_numbers post n (x4 + (1 : Int32)) (x5 + (1 : Int32)) (upd v_pile x4.toNatClampNeg a3)))))))) ∧ (¬ (10000 : Int32) ≤ (v_steps_numbers x5.toNatClampNeg) → (vp_in x4 50 ∧ (wp_X1_worth_b6 a1 a2 a3 v_steps_many v_steps_numbers post n (x4 + (1 : Int32)) (x5 + (1 : Int32)) (upd v_pile x4.toNatClampNeg (v_steps_numbers x5.toNatClampNeg)))))))))))))) := h
def wp_X1_worth (a1 : Int32) (a2 : Int32) (a3 : Int32) (v_steps_many : Int32) (v_pile : Nat → Int32) (v_steps_numbers : Nat → Int32) (post : Int32 → (Nat → Int32) → Prop) : Prop := ∃ k, wp_X1_worth_b6 a1 a2 a3 v_steps_many v_steps_numbers post k (0 : Int32) (0 : Int32) v_pile
abbrev rm_X1_worth : Room := { frames := 1, cells := 0, slots := 0, locals := 22 }
abbrev Qc_X1_worth (K : vGl) (q_h q_h_steps q_h_pile q_h_steps_numbers : Nat)  (g_h_use : Value) (v_steps_many : Int32) (v_steps_numbers : Nat → Int32) (post : Int32 → (Nat → Int32) → Prop) (A : Nat → Prop) : Array Value → State → Outcome → State → Prop := va_Qi (fun (r : Int32) (u : (Nat → Int32)) => post r u) (fun u t => vB K A [(q_h, .inr (0, [.ref q_h_steps, .ref q_h_pile, g_h_use])), (q_h_steps, .inr (2, [.ref q_h_steps_numbers, .int v_steps_many])), (q_h_pile, .inl (K.2.2.1, 50, .inl u)), (q_h_steps_numbers, .inl (K.2.2.1, 50, .inl v_steps_numbers))] t) A
set_option maxHeartbeats 4000000 in
set_option maxRecDepth 100000 in
theorem t_X1_worth_b155 {p : Program} {l : Launch} {e : Env} {s : State} {m : MethodId} {args : Array Value} {below : List Frame} {meth : Method} {c : Code} {A : Nat → Prop} {K : vGl} {q_h q_h_steps q_h_pile q_h_steps_numbers : Nat} {g_h_use : Value} {C6 : Int32 → Int32 → (Nat → Int32) → Prop} {a1 : Int32} {a2 : Int32} {a3 : Int32} {v_steps_many : Int32} {v_steps_numbers : Nat → Int32} {post : Int32 → (Nat → Int32) → Prop} (F : vFx p s m args meth c cX1_worth RX1 7 (some .int)) (hX : vX K A s) (hC6 : ∀ (x4 : Int32) (x5 : Int32) (v_pile : Nat → Int32) (H : Heap) (locs : List Loc) (ls : Array Slot), C6 x4 x5 v_pile → va_P K.1 vwCl [(q_h, .inr (0, [.ref q_h_steps, .ref q_h_pile, g_h_use])), (q_h_steps, .inr (2, [.ref q_h_steps_numbers, .int v_steps_many])), (q_h_pile, .inl (K.2.2.1, 50, .inl v_pile)), (q_h_steps_numbers, .inl (K.2.2.1, 50, .inl v_steps_numbers))] H → va_D A [(q_h, .inr (0, [.ref q_h_steps, .ref q_h_pile, g_h_use])), (q_h_steps, .inr (2, [.ref q_h_steps_numbers, .int v_steps_many])), (q_h_pile, .inl (K.2.2.1, 50, .inl v_pile)), (q_h_steps_numbers, .inl (K.2.2.1, 50, .inl v_steps_numbers))] → va_S A s.heap H locs → lv_has ls 7 [(0, .ref q_h), (1, .int a1), (2, .int a2), (3, .int a3), (4, .int x4), (5, .int x5)] → W p l e rm_X1_worth s m args below meth c H locs 0 0 (MQ below (Qc_X1_worth K q_h q_h_steps q_h_pile q_h_steps_numbers g_h_use v_steps_many v_steps_numbers post A) args s 0 0 A) (F0 m 6 ls [])) : ∀ (x4 : Int32) (x5 : Int32) (x6 : Int32) (v_pile : Nat → Int32) (H : Heap) (locs : List Loc) (ls : Array Slot), wp_X1_worth_b155 C6 post x4 x5 x6 v_pile → va_P K.1 vwCl [(q_h, .inr (0, [.ref q_h_steps, .ref q_h_pile, g_h_use])), (q_h_steps, .inr (2, [.ref q_h_steps_numbers, .int v_steps_many])), (q_h_pile, .inl (K.2.2.1, 50, .inl v_pile)), (q_h_steps_numbers, .inl (K.2.2.1, 50, .inl v_steps_numbers))] H → va_D A [(q_h, .inr (0, [.ref q_h_steps, .ref q_h_pile, g_h_use])), (q_h_steps, .inr (2, [.ref q_h_steps_numbers, .int v_steps_many])), (q_h_pile, .inl (K.2.2.1, 50, .inl v_pile)), (q_h_steps_numbers, .inl (K.2.2.1, 50, .inl v_steps_numbers))] → va_S A s.heap H locs → lv_has ls 7 [(0, .ref q_h), (1, .int a1), (2, .int a2), (3, .int a3), (4, .int x4), (5, .int x5), (6, .int x6)] → W p l e rm_X1_worth s m args below meth c H locs 0 0 (MQ below (Qc_X1_worth K q_h q_h_steps q_h_pile q_h_steps_numbers g_h_use v_steps_many v_steps_numbers post A) args s 0 0 A) (F0 m 155 ls []) := by
  obtain ⟨hx, hb, hml, hown, hts, hr, hlocks⟩ := id F
  intro x4 x5 x6 v_pile H locs ls hw hP hD hS hl
  unfold wp_X1_worth_b155 at hw
  refine lv_iload hx hb dX1_worth_155 (lv_at hl 4 rfl) ?_
  refine lv_iconst (v := (2 : Int32)) hx hb dX1_worth_157 (by decide) ?_
  refine lv_icmp_lt (tgt := 200) hx hb dX1_worth_158 (by decide) (fun c_5 => ?_) (fun c_5 => ?_)
  · have hw := hw.1 c_5
    refine lv_iinc (v := (x5 + (1 : Int32))) (lv' := [(5, .int (x5 + (1 : Int32))), (0, .ref q_h), (1, .int a1), (2, .int a2), (3, .int a3), (4, .int x4), (6, .int x6)]) hx hb dX1_worth_200 hl (k := 5) rfl rfl (by decide) rfl (fun ls hl => ?_)
    refine lv_goto (tgt := 6) hx hb dX1_worth_203 (by decide) ?_
    exact hC6 _ _ _ _ _ _ hw hP hD hS (lv_sub hl [1, 2, 3, 4, 5, 0] rfl)
  · have hw := hw.2 c_5
    refine lv_aload_n hx hb dX1_worth_161 rfl (lv_at hl 0 rfl) ?_
    refine va_get (D := K.1) (ci := 0) (v := .ref q_h_pile) (C := RX1) (T := TX1) (N := 3) hx hb hts iwX1 hown hX.1 hP 0 rfl rfl 1 (by decide) (hts _ k_121) (fun _ h9 => h9) rfl dX1_worth_162 ?_
    refine lv_iload hx hb dX1_worth_165 (lv_at hl 4 rfl) ?_
    refine lv_iconst (v := (2 : Int32)) hx hb dX1_worth_167 (by decide) ?_
    refine lv_isub hx hb dX1_worth_168 ?_
    refine lv_iload hx hb dX1_worth_169 (lv_at hl 6 rfl) ?_
    refine lv_sipush (v := (20000 : Int32)) hx hb dX1_worth_171 (by decide) ?_
    refine lv_isub hx hb dX1_worth_174 ?_
    refine lv_aload_n hx hb dX1_worth_175 rfl (lv_at hl 0 rfl) ?_
    refine va_get (D := K.1) (ci := 0) (v := .ref q_h_pile) (C := RX1) (T := TX1) (N := 3) hx hb hts iwX1 hown hX.1 hP 0 rfl rfl 1 (by decide) (hts _ k_121) (fun _ h9 => h9) rfl dX1_worth_176 ?_
    refine lv_iload hx hb dX1_worth_179 (lv_at hl 4 rfl) ?_
    refine lv_iconst (v := (2 : Int32)) hx hb dX1_worth_181 (by decide) ?_
    refine lv_isub hx hb dX1_worth_182 ?_
    refine va_iald hx hb hX.1 hP 2 0 rfl rfl hw.1 dX1_worth_183 ?_
    have hw := hw.2
    refine lv_aload_n hx hb dX1_worth_184 rfl (lv_at hl 0 rfl) ?_
    refine va_get (D := K.1) (ci := 0) (v := .ref q_h_pile) (C := RX1) (T := TX1) (N := 3) hx hb hts iwX1 hown hX.1 hP 0 rfl rfl 1 (by decide) (hts _ k_121) (fun _ h9 => h9) rfl dX1_worth_185 ?_
    refine lv_iload hx hb dX1_worth_188 (lv_at hl 4 rfl) ?_
    refine lv_iconst (v := (1 : Int32)) hx hb dX1_worth_190 (by decide) ?_
    refine lv_isub hx hb dX1_worth_191 ?_
    refine va_iald hx hb hX.1 hP 2 0 rfl rfl hw.1 dX1_worth_192 ?_
    have hw := hw.2
    refine vCalli (K := K) (wr := [(q_h, .inr (0, [.ref q_h_steps, .ref q_h_pile, g_h_use])), (q_h_steps, .inr (2, [.ref q_h_steps_numbers, .int v_steps_many])), (q_h_pile, .inl (K.2.2.1, 50, .inl v_pile)), (q_h_steps_numbers, .inl (K.2.2.1, 50, .inl v_steps_numbers))]) (w1 := (fun _ => [])) (va_runS (As := [.int (x6 - (20000 : Int32)), .int (v_pile (x4 - (2 : Int32)).toNatClampNeg), .int (v_pile (x4 - (1 : Int32)).toNatClampNeg)]) (rest := [.int (x4 - (2 : Int32)), .ref q_h_pile]) ⟨hx, hb, hml, hown, hts⟩ (c_X1_works l K  H.size (x6 - (20000 : Int32)) (v_pile (x4 - (2 : Int32)).toNatClampNeg) (v_pile (x4 - (1 : Int32)).toNatClampNeg) _ hw) (va_cwS 3 hts (vGoodS k_534 k_535 k_59 k_536) rfl rfl rfl (by decide +kernel) ⟨Nat.le_of_ble_eq_true rfl, Nat.le_of_ble_eq_true rfl⟩) ⟨vPre_blind, fun U hU hW => ⟨rfl, vPre_of hX hP hD hS [] rfl (by decide) U hU hW⟩⟩ rfl rfl hl.1 rfl (lv_room (Nat.le_of_ble_eq_true rfl)) dX1_worth_193 ⟨Nat.zero_le _, Nat.zero_le _⟩) hX hP hD hS [] [0, 1, 2, 3] rfl rfl (by decide) (by decide) (fun r_6 u H locs hw hP hD hS => ?_)
    have hP : va_P K.1 vwCl [(q_h, .inr (0, [.ref q_h_steps, .ref q_h_pile, g_h_use])), (q_h_steps, .inr (2, [.ref q_h_steps_numbers, .int v_steps_many])), (q_h_pile, .inl (K.2.2.1, 50, .inl v_pile)), (q_h_steps_numbers, .inl (K.2.2.1, 50, .inl v_steps_numbers))] H := hP.sub [0, 1, 2, 3] rfl
    have hD : va_D A [(q_h, .inr (0, [.ref q_h_steps, .ref q_h_pile, g_h_use])), (q_h_steps, .inr (2, [.ref q_h_steps_numbers, .int v_steps_many])), (q_h_pile, .inl (K.2.2.1, 50, .inl v_pile)), (q_h_steps_numbers, .inl (K.2.2.1, 50, .inl v_steps_numbers))] := hD.sub [0, 1, 2, 3] (by decide) rfl
    refine va_iast hx hb hX.1 hP hD hS 2 0 rfl rfl hw.1 dX1_worth_196 (fun H locs hP hD hS => ?_)
    have hP : va_P K.1 vwCl [(q_h, .inr (0, [.ref q_h_steps, .ref q_h_pile, g_h_use])), (q_h_steps, .inr (2, [.ref q_h_steps_numbers, .int v_steps_many])), (q_h_pile, .inl (K.2.2.1, 50, .inl (upd v_pile (x4 - (2 : Int32)).toNatClampNeg r_6))), (q_h_steps_numbers, .inl (K.2.2.1, 50, .inl v_steps_numbers))] H := hP
    have hD : va_D A [(q_h, .inr (0, [.ref q_h_steps, .ref q_h_pile, g_h_use])), (q_h_steps, .inr (2, [.ref q_h_steps_numbers, .int v_steps_many])), (q_h_pile, .inl (K.2.2.1, 50, .inl (upd v_pile (x4 - (2 : Int32)).toNatClampNeg r_6))), (q_h_steps_numbers, .inl (K.2.2.1, 50, .inl v_steps_numbers))] := hD
    have hw := hw.2
    refine lv_iinc (v := (x4 + (-1 : Int32))) (lv' := [(4, .int (x4 + (-1 : Int32))), (0, .ref q_h), (1, .int a1), (2, .int a2), (3, .int a3), (5, .int x5), (6, .int x6)]) hx hb dX1_worth_197 hl (k := 4) rfl rfl (by decide) rfl (fun ls hl => ?_)
    refine lv_iinc (v := (x5 + (1 : Int32))) (lv' := [(5, .int (x5 + (1 : Int32))), (4, .int (x4 + (-1 : Int32))), (0, .ref q_h), (1, .int a1), (2, .int a2), (3, .int a3), (6, .int x6)]) hx hb dX1_worth_200 hl (k := 5) rfl rfl (by decide) rfl (fun ls hl => ?_)
    refine lv_goto (tgt := 6) hx hb dX1_worth_203 (by decide) ?_
    exact hC6 _ _ _ _ _ _ hw hP hD hS (lv_sub hl [2, 3, 4, 5, 1, 0] rfl)
set_option maxHeartbeats 4000000 in
set_option maxRecDepth 100000 in
theorem t_X1_worth_b112 {p : Program} {l : Launch} {e : Env} {s : State} {m : MethodId} {args : Array Value} {below : List Frame} {meth : Method} {c : Code} {A : Nat → Prop} {K : vGl} {q_h q_h_steps q_h_pile q_h_steps_numbers : Nat} {g_h_use : Value} {C6 : Int32 → Int32 → (Nat → Int32) → Prop} {a1 : Int32} {a2 : Int32} {a3 : Int32} {v_steps_many : Int32} {v_steps_numbers : Nat → Int32} {post : Int32 → (Nat → Int32) → Prop} (F : vFx p s m args meth c cX1_worth RX1 7 (some .int)) (hX : vX K A s) (hC6 : ∀ (x4 : Int32) (x5 : Int32) (v_pile : Nat → Int32) (H : Heap) (locs : List Loc) (ls : Array Slot), C6 x4 x5 v_pile → va_P K.1 vwCl [(q_h, .inr (0, [.ref q_h_steps, .ref q_h_pile, g_h_use])), (q_h_steps, .inr (2, [.ref q_h_steps_numbers, .int v_steps_many])), (q_h_pile, .inl (K.2.2.1, 50, .inl v_pile)), (q_h_steps_numbers, .inl (K.2.2.1, 50, .inl v_steps_numbers))] H → va_D A [(q_h, .inr (0, [.ref q_h_steps, .ref q_h_pile, g_h_use])), (q_h_steps, .inr (2, [.ref q_h_steps_numbers, .int v_steps_many])), (q_h_pile, .inl (K.2.2.1, 50, .inl v_pile)), (q_h_steps_numbers, .inl (K.2.2.1, 50, .inl v_steps_numbers))] → va_S A s.heap H locs → lv_has ls 7 [(0, .ref q_h), (1, .int a1), (2, .int a2), (3, .int a3), (4, .int x4), (5, .int x5)] → W p l e rm_X1_worth s m args below meth c H locs 0 0 (MQ below (Qc_X1_worth K q_h q_h_steps q_h_pile q_h_steps_numbers g_h_use v_steps_many v_steps_numbers post A) args s 0 0 A) (F0 m 6 ls [])) : ∀ (x4 : Int32) (x5 : Int32) (x6 : Int32) (v_pile : Nat → Int32) (H : Heap) (locs : List Loc) (ls : Array Slot), wp_X1_worth_b112 C6 post x4 x5 x6 v_pile → va_P K.1 vwCl [(q_h, .inr (0, [.ref q_h_steps, .ref q_h_pile, g_h_use])), (q_h_steps, .inr (2, [.ref q_h_steps_numbers, .int v_steps_many])), (q_h_pile, .inl (K.2.2.1, 50, .inl v_pile)), (q_h_steps_numbers, .inl (K.2.2.1, 50, .inl v_steps_numbers))] H → va_D A [(q_h, .inr (0, [.ref q_h_steps, .ref q_h_pile, g_h_use])), (q_h_steps, .inr (2, [.ref q_h_steps_numbers, .int v_steps_many])), (q_h_pile, .inl (K.2.2.1, 50, .inl v_pile)), (q_h_steps_numbers, .inl (K.2.2.1, 50, .inl v_steps_numbers))] → va_S A s.heap H locs → lv_has ls 7 [(0, .ref q_h), (1, .int a1), (2, .int a2), (3, .int a3), (4, .int x4), (5, .int x5), (6, .int x6)] → W p l e rm_X1_worth s m args below meth c H locs 0 0 (MQ below (Qc_X1_worth K q_h q_h_steps q_h_pile q_h_steps_numbers g_h_use v_steps_many v_steps_numbers post A) args s 0 0 A) (F0 m 112 ls []) := by
  obtain ⟨hx, hb, hml, hown, hts, hr, hlocks⟩ := id F
  intro x4 x5 x6 v_pile H locs ls hw hP hD hS hl
  unfold wp_X1_worth_b112 at hw
  refine lv_iload hx hb dX1_worth_112 (lv_at hl 6 rfl) ?_
  refine lv_sipush (v := (20033 : Int32)) hx hb dX1_worth_114 (by decide) ?_
  refine lv_icmp_ne (tgt := 155) hx hb dX1_worth_117 (by decide) (fun c_4 => ?_) (fun c_4 => ?_)
  · have hw := hw.2 c_4
    exact t_X1_worth_b155 F hX hC6 _ _ _ _ _ _ _ hw hP hD hS (lv_sub hl [0, 1, 2, 3, 4, 5, 6] rfl)
  · have hw := hw.1 c_4
    refine lv_iload hx hb dX1_worth_120 (lv_at hl 4 rfl) ?_
    refine lv_iconst (v := (1 : Int32)) hx hb dX1_worth_122 (by decide) ?_
    refine lv_icmp_lt (tgt := 155) hx hb dX1_worth_123 (by decide) (fun c_7 => ?_) (fun c_7 => ?_)
    · have hw := hw.1 c_7
      exact t_X1_worth_b155 F hX hC6 _ _ _ _ _ _ _ hw hP hD hS (lv_sub hl [0, 1, 2, 3, 4, 5, 6] rfl)
    · have hw := hw.2 c_7
      refine lv_aload_n hx hb dX1_worth_126 rfl (lv_at hl 0 rfl) ?_
      refine va_get (D := K.1) (ci := 0) (v := .ref q_h_pile) (C := RX1) (T := TX1) (N := 3) hx hb hts iwX1 hown hX.1 hP 0 rfl rfl 1 (by decide) (hts _ k_121) (fun _ h9 => h9) rfl dX1_worth_127 ?_
      refine lv_iload hx hb dX1_worth_130 (lv_at hl 4 rfl) ?_
      refine lv_iconst (v := (1 : Int32)) hx hb dX1_worth_132 (by decide) ?_
      refine lv_isub hx hb dX1_worth_133 ?_
      refine lv_aload_n hx hb dX1_worth_134 rfl (lv_at hl 0 rfl) ?_
      refine va_get (D := K.1) (ci := 0) (v := .ref q_h_pile) (C := RX1) (T := TX1) (N := 3) hx hb hts iwX1 hown hX.1 hP 0 rfl rfl 1 (by decide) (hts _ k_121) (fun _ h9 => h9) rfl dX1_worth_135 ?_
      refine lv_iload hx hb dX1_worth_138 (lv_at hl 4 rfl) ?_
      refine lv_iconst (v := (1 : Int32)) hx hb dX1_worth_140 (by decide) ?_
      refine lv_isub hx hb dX1_worth_141 ?_
      refine va_iald hx hb hX.1 hP 2 0 rfl rfl hw.1 dX1_worth_142 ?_
      have hw := hw.2
      refine lv_if_ne (tgt := 150) hx hb dX1_worth_143 (by decide) (fun c_8 => ?_) (fun c_8 => ?_)
      · have hw := hw.2 c_8
        refine lv_iconst (v := (0 : Int32)) hx hb dX1_worth_150 (by decide) ?_
        refine va_iast hx hb hX.1 hP hD hS 2 0 rfl rfl hw.1 dX1_worth_151 (fun H locs hP hD hS => ?_)
        have hP : va_P K.1 vwCl [(q_h, .inr (0, [.ref q_h_steps, .ref q_h_pile, g_h_use])), (q_h_steps, .inr (2, [.ref q_h_steps_numbers, .int v_steps_many])), (q_h_pile, .inl (K.2.2.1, 50, .inl (upd v_pile (x4 - (1 : Int32)).toNatClampNeg (0 : Int32)))), (q_h_steps_numbers, .inl (K.2.2.1, 50, .inl v_steps_numbers))] H := hP
        have hD : va_D A [(q_h, .inr (0, [.ref q_h_steps, .ref q_h_pile, g_h_use])), (q_h_steps, .inr (2, [.ref q_h_steps_numbers, .int v_steps_many])), (q_h_pile, .inl (K.2.2.1, 50, .inl (upd v_pile (x4 - (1 : Int32)).toNatClampNeg (0 : Int32)))), (q_h_steps_numbers, .inl (K.2.2.1, 50, .inl v_steps_numbers))] := hD
        have hw := hw.2
        refine lv_goto (tgt := 200) hx hb dX1_worth_152 (by decide) ?_
        refine lv_iinc (v := (x5 + (1 : Int32))) (lv' := [(5, .int (x5 + (1 : Int32))), (0, .ref q_h), (1, .int a1), (2, .int a2), (3, .int a3), (4, .int x4), (6, .int x6)]) hx hb dX1_worth_200 hl (k := 5) rfl rfl (by decide) rfl (fun ls hl => ?_)
        refine lv_goto (tgt := 6) hx hb dX1_worth_203 (by decide) ?_
        exact hC6 _ _ _ _ _ _ hw hP hD hS (lv_sub hl [1, 2, 3, 4, 5, 0] rfl)
      · have hw := hw.1 c_8
        refine lv_iconst (v := (1 : Int32)) hx hb dX1_worth_146 (by decide) ?_
        refine lv_goto (tgt := 151) hx hb dX1_worth_147 (by decide) ?_
        refine va_iast hx hb hX.1 hP hD hS 2 0 rfl rfl hw.1 dX1_worth_151 (fun H locs hP hD hS => ?_)
        have hP : va_P K.1 vwCl [(q_h, .inr (0, [.ref q_h_steps, .ref q_h_pile, g_h_use])), (q_h_steps, .inr (2, [.ref q_h_steps_numbers, .int v_steps_many])), (q_h_pile, .inl (K.2.2.1, 50, .inl (upd v_pile (x4 - (1 : Int32)).toNatClampNeg (1 : Int32)))), (q_h_steps_numbers, .inl (K.2.2.1, 50, .inl v_steps_numbers))] H := hP
        have hD : va_D A [(q_h, .inr (0, [.ref q_h_steps, .ref q_h_pile, g_h_use])), (q_h_steps, .inr (2, [.ref q_h_steps_numbers, .int v_steps_many])), (q_h_pile, .inl (K.2.2.1, 50, .inl (upd v_pile (x4 - (1 : Int32)).toNatClampNeg (1 : Int32)))), (q_h_steps_numbers, .inl (K.2.2.1, 50, .inl v_steps_numbers))] := hD
        have hw := hw.2
        refine lv_goto (tgt := 200) hx hb dX1_worth_152 (by decide) ?_
        refine lv_iinc (v := (x5 + (1 : Int32))) (lv' := [(5, .int (x5 + (1 : Int32))), (0, .ref q_h), (1, .int a1), (2, .int a2), (3, .int a3), (4, .int x4), (6, .int x6)]) hx hb dX1_worth_200 hl (k := 5) rfl rfl (by decide) rfl (fun ls hl => ?_)
        refine lv_goto (tgt := 6) hx hb dX1_worth_203 (by decide) ?_
        exact hC6 _ _ _ _ _ _ hw hP hD hS (lv_sub hl [1, 2, 3, 4, 5, 0] rfl)
set_option maxHeartbeats 4000000 in
set_option maxRecDepth 100000 in
theorem t_X1_worth_b6 {p : Program} {l : Launch} {e : Env} {s : State} {m : MethodId} {args : Array Value} {below : List Frame} {meth : Method} {c : Code} {A : Nat → Prop} {K : vGl} {q_h q_h_steps q_h_pile q_h_steps_numbers : Nat} {g_h_use : Value} {a1 : Int32} {a2 : Int32} {a3 : Int32} {v_steps_many : Int32} {v_steps_numbers : Nat → Int32} {post : Int32 → (Nat → Int32) → Prop} (F : vFx p s m args meth c cX1_worth RX1 7 (some .int)) (hX : vX K A s) : ∀ (n : Nat) (x4 : Int32) (x5 : Int32) (v_pile : Nat → Int32) (H : Heap) (locs : List Loc) (ls : Array Slot), wp_X1_worth_b6 a1 a2 a3 v_steps_many v_steps_numbers post n x4 x5 v_pile → va_P K.1 vwCl [(q_h, .inr (0, [.ref q_h_steps, .ref q_h_pile, g_h_use])), (q_h_steps, .inr (2, [.ref q_h_steps_numbers, .int v_steps_many])), (q_h_pile, .inl (K.2.2.1, 50, .inl v_pile)), (q_h_steps_numbers, .inl (K.2.2.1, 50, .inl v_steps_numbers))] H → va_D A [(q_h, .inr (0, [.ref q_h_steps, .ref q_h_pile, g_h_use])), (q_h_steps, .inr (2, [.ref q_h_steps_numbers, .int v_steps_many])), (q_h_pile, .inl (K.2.2.1, 50, .inl v_pile)), (q_h_steps_numbers, .inl (K.2.2.1, 50, .inl v_steps_numbers))] → va_S A s.heap H locs → lv_has ls 7 [(0, .ref q_h), (1, .int a1), (2, .int a2), (3, .int a3), (4, .int x4), (5, .int x5)] → W p l e rm_X1_worth s m args below meth c H locs 0 0 (MQ below (Qc_X1_worth K q_h q_h_steps q_h_pile q_h_steps_numbers g_h_use v_steps_many v_steps_numbers post A) args s 0 0 A) (F0 m 6 ls []) := by
  obtain ⟨hx, hb, hml, hown, hts, hr, hlocks⟩ := id F
  intro n
  induction n with
  | zero =>
    intro x4 x5 v_pile H locs ls hw
    exact hw.elim
  | succ n ih =>
    intro x4 x5 v_pile H locs ls hw hP hD hS hl
    have hw := u_X1_worth_b6 hw
    refine lv_iload hx hb dX1_worth_6 (lv_at hl 5 rfl) ?_
    refine lv_aload_n hx hb dX1_worth_8 rfl (lv_at hl 0 rfl) ?_
    refine va_get (D := K.1) (ci := 0) (v := .ref q_h_steps) (C := RX1) (T := TX1) (N := 3) hx hb hts iwX1 hown hX.1 hP 0 rfl rfl 0 (by decide) (hts _ k_118) (fun _ h9 => h9) rfl dX1_worth_9 ?_
    refine va_get (D := K.1) (ci := 2) (v := .int v_steps_many) (C := RX3) (T := TX3) (N := 2) hx hb hts iwX3 hown hX.1 hP 1 rfl rfl 1 (by decide) (hts _ k_108) (fun _ h9 => h9) rfl dX1_worth_12 ?_
    refine lv_icmp_ge (tgt := 206) hx hb dX1_worth_15 (by decide) (fun c_1 => ?_) (fun c_1 => ?_)
    · have hw := hw.1 c_1
      refine lv_aload_n hx hb dX1_worth_206 rfl (lv_at hl 0 rfl) ?_
      refine va_get (D := K.1) (ci := 0) (v := .ref q_h_pile) (C := RX1) (T := TX1) (N := 3) hx hb hts iwX1 hown hX.1 hP 0 rfl rfl 1 (by decide) (hts _ k_121) (fun _ h9 => h9) rfl dX1_worth_207 ?_
      refine lv_iconst (v := (0 : Int32)) hx hb dX1_worth_210 (by decide) ?_
      refine va_iald hx hb hX.1 hP 2 0 rfl rfl (vin (by decide +kernel)) dX1_worth_211 ?_
      exact W.iret (v := (v_pile (0 : Int32).toNatClampNeg)) hx hb hr (fun t ht hW => ⟨⟨(v_pile (0 : Int32).toNatClampNeg), v_pile, rfl, hw, by rw [ht]; exact hP, va_K.moved hW.alike hX.1, hD⟩, hS.F ht⟩) hS.2.2 dX1_worth_212 hlocks
    · have hw := hw.2 c_1
      refine lv_iload hx hb dX1_worth_18 (lv_at hl 5 rfl) ?_
      refine lv_aload_n hx hb dX1_worth_20 rfl (lv_at hl 0 rfl) ?_
      refine va_get (D := K.1) (ci := 0) (v := .ref q_h_steps) (C := RX1) (T := TX1) (N := 3) hx hb hts iwX1 hown hX.1 hP 0 rfl rfl 0 (by decide) (hts _ k_118) (fun _ h9 => h9) rfl dX1_worth_21 ?_
      refine va_get (D := K.1) (ci := 2) (v := .ref q_h_steps_numbers) (C := RX3) (T := TX3) (N := 2) hx hb hts iwX3 hown hX.1 hP 1 rfl rfl 0 (by decide) (hts _ k_103) (fun _ h9 => h9) rfl dX1_worth_24 ?_
      refine va_alen (v := (50 : Int32)) hx hb hX.1 hP 3 0 rfl rfl rfl dX1_worth_27 ?_
      refine lv_icmp_ge (tgt := 206) hx hb dX1_worth_28 (by decide) (fun c_2 => ?_) (fun c_2 => ?_)
      · have hw := hw.1 c_2
        refine lv_aload_n hx hb dX1_worth_206 rfl (lv_at hl 0 rfl) ?_
        refine va_get (D := K.1) (ci := 0) (v := .ref q_h_pile) (C := RX1) (T := TX1) (N := 3) hx hb hts iwX1 hown hX.1 hP 0 rfl rfl 1 (by decide) (hts _ k_121) (fun _ h9 => h9) rfl dX1_worth_207 ?_
        refine lv_iconst (v := (0 : Int32)) hx hb dX1_worth_210 (by decide) ?_
        refine va_iald hx hb hX.1 hP 2 0 rfl rfl (vin (by decide +kernel)) dX1_worth_211 ?_
        exact W.iret (v := (v_pile (0 : Int32).toNatClampNeg)) hx hb hr (fun t ht hW => ⟨⟨(v_pile (0 : Int32).toNatClampNeg), v_pile, rfl, hw, by rw [ht]; exact hP, va_K.moved hW.alike hX.1, hD⟩, hS.F ht⟩) hS.2.2 dX1_worth_212 hlocks
      · have hw := hw.2 c_2
        refine lv_aload_n hx hb dX1_worth_31 rfl (lv_at hl 0 rfl) ?_
        refine va_get (D := K.1) (ci := 0) (v := .ref q_h_steps) (C := RX1) (T := TX1) (N := 3) hx hb hts iwX1 hown hX.1 hP 0 rfl rfl 0 (by decide) (hts _ k_118) (fun _ h9 => h9) rfl dX1_worth_32 ?_
        refine va_get (D := K.1) (ci := 2) (v := .ref q_h_steps_numbers) (C := RX3) (T := TX3) (N := 2) hx hb hts iwX3 hown hX.1 hP 1 rfl rfl 0 (by decide) (hts _ k_103) (fun _ h9 => h9) rfl dX1_worth_35 ?_
        refine lv_iload hx hb dX1_worth_38 (lv_at hl 5 rfl) ?_
        refine va_iald hx hb hX.1 hP 3 0 rfl rfl hw.1 dX1_worth_40 ?_
        have hw := hw.2
        refine lv_istore (lv' := [(6, .int (v_steps_numbers x5.toNatClampNeg)), (0, .ref q_h), (1, .int a1), (2, .int a2), (3, .int a3), (4, .int x4), (5, .int x5)]) hx hb dX1_worth_41 hl (by decide) rfl (fun ls hl => ?_)
        refine lv_iload hx hb dX1_worth_43 (lv_at hl 0 rfl) ?_
        refine lv_sipush (v := (20000 : Int32)) hx hb dX1_worth_45 (by decide) ?_
        refine lv_icmp_ge (tgt := 112) hx hb dX1_worth_48 (by decide) (fun c_3 => ?_) (fun c_3 => ?_)
        · have hw := hw.1 c_3
          exact t_X1_worth_b112 F hX (fun x4 x5 v_pile H locs ls hw hP hD hS hl => ih _ _ _ _ _ _ hw hP hD hS hl) _ _ _ _ _ _ _ hw hP hD hS (lv_sub hl [1, 2, 3, 4, 5, 6, 0] rfl)
        · have hw := hw.2 c_3
          refine lv_iload hx hb dX1_worth_51 (lv_at hl 5 rfl) ?_
          refine lv_aload_n hx hb dX1_worth_53 rfl (lv_at hl 1 rfl) ?_
          refine va_get (D := K.1) (ci := 0) (v := .ref q_h_pile) (C := RX1) (T := TX1) (N := 3) hx hb hts iwX1 hown hX.1 hP 0 rfl rfl 1 (by decide) (hts _ k_121) (fun _ h9 => h9) rfl dX1_worth_54 ?_
          refine va_alen (v := (50 : Int32)) hx hb hX.1 hP 2 0 rfl rfl rfl dX1_worth_57 ?_
          refine lv_icmp_ge (tgt := 112) hx hb dX1_worth_58 (by decide) (fun c_9 => ?_) (fun c_9 => ?_)
          · have hw := hw.1 c_9
            exact t_X1_worth_b112 F hX (fun x4 x5 v_pile H locs ls hw hP hD hS hl => ih _ _ _ _ _ _ hw hP hD hS hl) _ _ _ _ _ _ _ hw hP hD hS (lv_sub hl [1, 2, 3, 4, 5, 6, 0] rfl)
          · have hw := hw.2 c_9
            refine lv_aload_n hx hb dX1_worth_61 rfl (lv_at hl 1 rfl) ?_
            refine va_get (D := K.1) (ci := 0) (v := .ref q_h_pile) (C := RX1) (T := TX1) (N := 3) hx hb hts iwX1 hown hX.1 hP 0 rfl rfl 1 (by decide) (hts _ k_121) (fun _ h9 => h9) rfl dX1_worth_62 ?_
            refine lv_iload hx hb dX1_worth_65 (lv_at hl 5 rfl) ?_
            refine lv_iload hx hb dX1_worth_67 (lv_at hl 0 rfl) ?_
            refine lv_sipush (v := (10000 : Int32)) hx hb dX1_worth_69 (by decide) ?_
            refine lv_icmp_ge (tgt := 80) hx hb dX1_worth_72 (by decide) (fun c_10 => ?_) (fun c_10 => ?_)
            · have hw := hw.1 c_10
              refine lv_iload hx hb dX1_worth_80 (lv_at hl 0 rfl) ?_
              refine lv_sipush (v := (10000 : Int32)) hx hb dX1_worth_82 (by decide) ?_
              refine lv_icmp_ne (tgt := 92) hx hb dX1_worth_85 (by decide) (fun c_11 => ?_) (fun c_11 => ?_)
              · have hw := hw.2 c_11
                refine lv_iload hx hb dX1_worth_92 (lv_at hl 0 rfl) ?_
                refine lv_sipush (v := (10001 : Int32)) hx hb dX1_worth_94 (by decide) ?_
                refine lv_icmp_ne (tgt := 104) hx hb dX1_worth_97 (by decide) (fun c_12 => ?_) (fun c_12 => ?_)
                · have hw := hw.2 c_12
                  refine lv_iload_n hx hb dX1_worth_104 rfl (lv_at hl 4 rfl) ?_
                  refine va_iast hx hb hX.1 hP hD hS 2 0 rfl rfl hw.1 dX1_worth_105 (fun H locs hP hD hS => ?_)
                  have hP : va_P K.1 vwCl [(q_h, .inr (0, [.ref q_h_steps, .ref q_h_pile, g_h_use])), (q_h_steps, .inr (2, [.ref q_h_steps_numbers, .int v_steps_many])), (q_h_pile, .inl (K.2.2.1, 50, .inl (upd v_pile x4.toNatClampNeg a3))), (q_h_steps_numbers, .inl (K.2.2.1, 50, .inl v_steps_numbers))] H := hP
                  have hD : va_D A [(q_h, .inr (0, [.ref q_h_steps, .ref q_h_pile, g_h_use])), (q_h_steps, .inr (2, [.ref q_h_steps_numbers, .int v_steps_many])), (q_h_pile, .inl (K.2.2.1, 50, .inl (upd v_pile x4.toNatClampNeg a3))), (q_h_steps_numbers, .inl (K.2.2.1, 50, .inl v_steps_numbers))] := hD
                  have hw := hw.2
                  refine lv_iinc (v := (x4 + (1 : Int32))) (lv' := [(4, .int (x4 + (1 : Int32))), (6, .int (v_steps_numbers x5.toNatClampNeg)), (0, .ref q_h), (1, .int a1), (2, .int a2), (3, .int a3), (5, .int x5)]) hx hb dX1_worth_106 hl (k := 5) rfl rfl (by decide) rfl (fun ls hl => ?_)
                  refine lv_goto (tgt := 200) hx hb dX1_worth_109 (by decide) ?_
                  refine lv_iinc (v := (x5 + (1 : Int32))) (lv' := [(5, .int (x5 + (1 : Int32))), (4, .int (x4 + (1 : Int32))), (6, .int (v_steps_numbers x5.toNatClampNeg)), (0, .ref q_h), (1, .int a1), (2, .int a2), (3, .int a3)]) hx hb dX1_worth_200 hl (k := 6) rfl rfl (by decide) rfl (fun ls hl => ?_)
                  refine lv_goto (tgt := 6) hx hb dX1_worth_203 (by decide) ?_
                  exact ih _ _ _ _ _ _ hw hP hD hS (lv_sub hl [3, 4, 5, 6, 1, 0] rfl)
                · have hw := hw.1 c_12
                  refine lv_iload_n hx hb dX1_worth_100 rfl (lv_at hl 3 rfl) ?_
                  refine lv_goto (tgt := 105) hx hb dX1_worth_101 (by decide) ?_
                  refine va_iast hx hb hX.1 hP hD hS 2 0 rfl rfl hw.1 dX1_worth_105 (fun H locs hP hD hS => ?_)
                  have hP : va_P K.1 vwCl [(q_h, .inr (0, [.ref q_h_steps, .ref q_h_pile, g_h_use])), (q_h_steps, .inr (2, [.ref q_h_steps_numbers, .int v_steps_many])), (q_h_pile, .inl (K.2.2.1, 50, .inl (upd v_pile x4.toNatClampNeg a2))), (q_h_steps_numbers, .inl (K.2.2.1, 50, .inl v_steps_numbers))] H := hP
                  have hD : va_D A [(q_h, .inr (0, [.ref q_h_steps, .ref q_h_pile, g_h_use])), (q_h_steps, .inr (2, [.ref q_h_steps_numbers, .int v_steps_many])), (q_h_pile, .inl (K.2.2.1, 50, .inl (upd v_pile x4.toNatClampNeg a2))), (q_h_steps_numbers, .inl (K.2.2.1, 50, .inl v_steps_numbers))] := hD
                  have hw := hw.2
                  refine lv_iinc (v := (x4 + (1 : Int32))) (lv' := [(4, .int (x4 + (1 : Int32))), (6, .int (v_steps_numbers x5.toNatClampNeg)), (0, .ref q_h), (1, .int a1), (2, .int a2), (3, .int a3), (5, .int x5)]) hx hb dX1_worth_106 hl (k := 5) rfl rfl (by decide) rfl (fun ls hl => ?_)
                  refine lv_goto (tgt := 200) hx hb dX1_worth_109 (by decide) ?_
                  refine lv_iinc (v := (x5 + (1 : Int32))) (lv' := [(5, .int (x5 + (1 : Int32))), (4, .int (x4 + (1 : Int32))), (6, .int (v_steps_numbers x5.toNatClampNeg)), (0, .ref q_h), (1, .int a1), (2, .int a2), (3, .int a3)]) hx hb dX1_worth_200 hl (k := 6) rfl rfl (by decide) rfl (fun ls hl => ?_)
                  refine lv_goto (tgt := 6) hx hb dX1_worth_203 (by decide) ?_
                  exact ih _ _ _ _ _ _ hw hP hD hS (lv_sub hl [3, 4, 5, 6, 1, 0] rfl)
              · have hw := hw.1 c_11
                refine lv_iload_n hx hb dX1_worth_88 rfl (lv_at hl 2 rfl) ?_
                refine lv_goto (tgt := 105) hx hb dX1_worth_89 (by decide) ?_
                refine va_iast hx hb hX.1 hP hD hS 2 0 rfl rfl hw.1 dX1_worth_105 (fun H locs hP hD hS => ?_)
                have hP : va_P K.1 vwCl [(q_h, .inr (0, [.ref q_h_steps, .ref q_h_pile, g_h_use])), (q_h_steps, .inr (2, [.ref q_h_steps_numbers, .int v_steps_many])), (q_h_pile, .inl (K.2.2.1, 50, .inl (upd v_pile x4.toNatClampNeg a1))), (q_h_steps_numbers, .inl (K.2.2.1, 50, .inl v_steps_numbers))] H := hP
                have hD : va_D A [(q_h, .inr (0, [.ref q_h_steps, .ref q_h_pile, g_h_use])), (q_h_steps, .inr (2, [.ref q_h_steps_numbers, .int v_steps_many])), (q_h_pile, .inl (K.2.2.1, 50, .inl (upd v_pile x4.toNatClampNeg a1))), (q_h_steps_numbers, .inl (K.2.2.1, 50, .inl v_steps_numbers))] := hD
                have hw := hw.2
                refine lv_iinc (v := (x4 + (1 : Int32))) (lv' := [(4, .int (x4 + (1 : Int32))), (6, .int (v_steps_numbers x5.toNatClampNeg)), (0, .ref q_h), (1, .int a1), (2, .int a2), (3, .int a3), (5, .int x5)]) hx hb dX1_worth_106 hl (k := 5) rfl rfl (by decide) rfl (fun ls hl => ?_)
                refine lv_goto (tgt := 200) hx hb dX1_worth_109 (by decide) ?_
                refine lv_iinc (v := (x5 + (1 : Int32))) (lv' := [(5, .int (x5 + (1 : Int32))), (4, .int (x4 + (1 : Int32))), (6, .int (v_steps_numbers x5.toNatClampNeg)), (0, .ref q_h), (1, .int a1), (2, .int a2), (3, .int a3)]) hx hb dX1_worth_200 hl (k := 6) rfl rfl (by decide) rfl (fun ls hl => ?_)
                refine lv_goto (tgt := 6) hx hb dX1_worth_203 (by decide) ?_
                exact ih _ _ _ _ _ _ hw hP hD hS (lv_sub hl [3, 4, 5, 6, 1, 0] rfl)
            · have hw := hw.2 c_10
              refine lv_iload hx hb dX1_worth_75 (lv_at hl 0 rfl) ?_
              refine lv_goto (tgt := 105) hx hb dX1_worth_77 (by decide) ?_
              refine va_iast hx hb hX.1 hP hD hS 2 0 rfl rfl hw.1 dX1_worth_105 (fun H locs hP hD hS => ?_)
              have hP : va_P K.1 vwCl [(q_h, .inr (0, [.ref q_h_steps, .ref q_h_pile, g_h_use])), (q_h_steps, .inr (2, [.ref q_h_steps_numbers, .int v_steps_many])), (q_h_pile, .inl (K.2.2.1, 50, .inl (upd v_pile x4.toNatClampNeg (v_steps_numbers x5.toNatClampNeg)))), (q_h_steps_numbers, .inl (K.2.2.1, 50, .inl v_steps_numbers))] H := hP
              have hD : va_D A [(q_h, .inr (0, [.ref q_h_steps, .ref q_h_pile, g_h_use])), (q_h_steps, .inr (2, [.ref q_h_steps_numbers, .int v_steps_many])), (q_h_pile, .inl (K.2.2.1, 50, .inl (upd v_pile x4.toNatClampNeg (v_steps_numbers x5.toNatClampNeg)))), (q_h_steps_numbers, .inl (K.2.2.1, 50, .inl v_steps_numbers))] := hD
              have hw := hw.2
              refine lv_iinc (v := (x4 + (1 : Int32))) (lv' := [(4, .int (x4 + (1 : Int32))), (6, .int (v_steps_numbers x5.toNatClampNeg)), (0, .ref q_h), (1, .int a1), (2, .int a2), (3, .int a3), (5, .int x5)]) hx hb dX1_worth_106 hl (k := 5) rfl rfl (by decide) rfl (fun ls hl => ?_)
              refine lv_goto (tgt := 200) hx hb dX1_worth_109 (by decide) ?_
              refine lv_iinc (v := (x5 + (1 : Int32))) (lv' := [(5, .int (x5 + (1 : Int32))), (4, .int (x4 + (1 : Int32))), (6, .int (v_steps_numbers x5.toNatClampNeg)), (0, .ref q_h), (1, .int a1), (2, .int a2), (3, .int a3)]) hx hb dX1_worth_200 hl (k := 6) rfl rfl (by decide) rfl (fun ls hl => ?_)
              refine lv_goto (tgt := 6) hx hb dX1_worth_203 (by decide) ?_
              exact ih _ _ _ _ _ _ hw hP hD hS (lv_sub hl [3, 4, 5, 6, 1, 0] rfl)
set_option maxHeartbeats 4000000 in
set_option maxRecDepth 100000 in
theorem c_X1_worth (l : Launch) (K : vGl) (q_h q_h_steps q_h_pile q_h_steps_numbers : Nat)  (g_h_use : Value) (sz : Nat) (a1 : Int32) (a2 : Int32) (a3 : Int32) (v_steps_many : Int32) (v_pile : Nat → Int32) (v_steps_numbers : Nat → Int32) (post : Int32 → (Nat → Int32) → Prop) (hw : wp_X1_worth a1 a2 a3 v_steps_many v_pile v_steps_numbers post) : Met l yX1_worth (.code yX1_worth cX1_worth 7 (some .int) :: vT) rm_X1_worth (va_Pc [.ref q_h, .int a1, .int a2, .int a3] (vPre K [(q_h, .inr (0, [.ref q_h_steps, .ref q_h_pile, g_h_use])), (q_h_steps, .inr (2, [.ref q_h_steps_numbers, .int v_steps_many])), (q_h_pile, .inl (K.2.2.1, 50, .inl v_pile)), (q_h_steps_numbers, .inl (K.2.2.1, 50, .inl v_steps_numbers))] sz)) (Qc_X1_worth K q_h q_h_steps q_h_pile q_h_steps_numbers g_h_use v_steps_many v_steps_numbers post (va_A [(q_h, .inr (0, [.ref q_h_steps, .ref q_h_pile, g_h_use])), (q_h_steps, .inr (2, [.ref q_h_steps_numbers, .int v_steps_many])), (q_h_pile, .inl (K.2.2.1, 50, .inl v_pile)), (q_h_steps_numbers, .inl (K.2.2.1, 50, .inl v_steps_numbers))] sz)) 0 0 (va_A [(q_h, .inr (0, [.ref q_h_steps, .ref q_h_pile, g_h_use])), (q_h_steps, .inr (2, [.ref q_h_steps_numbers, .int v_steps_many])), (q_h_pile, .inl (K.2.2.1, 50, .inl v_pile)), (q_h_steps_numbers, .inl (K.2.2.1, 50, .inl v_steps_numbers))] sz) := by
  unfold wp_X1_worth at hw
  refine Met.ofW (cc := cX1_worth) (maxL := 7) (ret := (some .int)) (by decide) rfl ?_
  intro p e s m args below meth c s₁ B hml hv
  obtain ⟨rfl, hsz, hP, hK, hD0, hG, hR⟩ := hv
  have hx := B.exec
  have hb := B.bytes
  have hr := B.returns
  have hts : ∀ w ∈ vT, w.before _ s = true := fun w h => atoms_spec (ws := .code yX1_worth cX1_worth 7 (some .int) :: vT) B.pre w (List.mem_cons_of_mem _ h)
  have hown : s.vm.findClass RX1 = some m.cls := findClass_of_methodNamed B.named
  have hlocks := B.notSynchronized
  subst hsz
  have hD := hD0.self (sz := s.heap.size)
  show W p l e (rm_X1_worth) s m _ below meth c s.heap [] 0 0 _ _
  generalize hAe : va_A [(q_h, .inr (0, [.ref q_h_steps, .ref q_h_pile, g_h_use])), (q_h_steps, .inr (2, [.ref q_h_steps_numbers, .int v_steps_many])), (q_h_pile, .inl (K.2.2.1, 50, .inl v_pile)), (q_h_steps_numbers, .inl (K.2.2.1, 50, .inl v_steps_numbers))] s.heap.size = A at hD hG ⊢
  have hX : vX K A s := ⟨hK, hG, hR, fun q h => by rw [← hAe]; exact Or.inr h⟩
  have hS : va_S A s.heap s.heap [] := va_S.rf
  have F : vFx p s m ([.ref q_h, .int a1, .int a2, .int a3] : List Value).toArray meth c cX1_worth RX1 7 (some .int) := ⟨hx, hb, hml, hown, hts, hr, hlocks⟩
  have hl := lv_entry ([.ref q_h, .int a1, .int a2, .int a3]) (n := 7) (Nat.le_of_ble_eq_true rfl)
  rw [lg_entry_eq]
  generalize (lg_sl ([.ref q_h, .int a1, .int a2, .int a3]) ++ List.replicate (7 - (lg_sl ([.ref q_h, .int a1, .int a2, .int a3])).length) Slot.unset).toArray = ls at hl ⊢
  have hl : lv_has ls 7 [(0, .ref q_h), (1, .int a1), (2, .int a2), (3, .int a3)] := hl
  obtain ⟨H, hHe⟩ : ∃ H, H = s.heap := ⟨_, rfl⟩
  have hS : va_S A s.heap H [] := by rw [hHe]; exact hS
  have hP : va_P K.1 vwCl [(q_h, .inr (0, [.ref q_h_steps, .ref q_h_pile, g_h_use])), (q_h_steps, .inr (2, [.ref q_h_steps_numbers, .int v_steps_many])), (q_h_pile, .inl (K.2.2.1, 50, .inl v_pile)), (q_h_steps_numbers, .inl (K.2.2.1, 50, .inl v_steps_numbers))] H := by rw [hHe]; exact hP
  refine vWH hHe ?_
  refine lv_iconst (v := (0 : Int32)) hx hb dX1_worth_0 (by decide) ?_
  refine lv_istore (lv' := [(4, .int (0 : Int32)), (0, .ref q_h), (1, .int a1), (2, .int a2), (3, .int a3)]) hx hb dX1_worth_1 hl (by decide) rfl (fun ls hl => ?_)
  refine lv_iconst (v := (0 : Int32)) hx hb dX1_worth_3 (by decide) ?_
  refine lv_istore (lv' := [(5, .int (0 : Int32)), (4, .int (0 : Int32)), (0, .ref q_h), (1, .int a1), (2, .int a2), (3, .int a3)]) hx hb dX1_worth_4 hl (by decide) rfl (fun ls hl => ?_)
  obtain ⟨k, hw⟩ := hw
  exact t_X1_worth_b6 F hX k _ _ _ _ _ _ hw hP hD hS (lv_sub hl [2, 3, 4, 5, 1, 0] rfl)
/-! OvenRings$Law.gives(III)I -/
def wp_X1_gives_b15 (a1 : Int32) (a2 : Int32) (a3 : Int32) (v_use : Int32) (v_steps_many : Int32) (v_steps_numbers : Nat → Int32)  (post : Int32 → (Nat → Int32) → Prop) (s0 : Int32) (v_pile : Nat → Int32) : Prop := (v_steps_many ≤ 0 → ((v_use = 0 → (post (vmx (0 : Int32) (vmn s0 (99 : Int32))) v_pile)) ∧ (¬ v_use = 0 → (post (vmx (0 : Int32) (vmn s0 (999 : Int32))) v_pile)))) ∧ (¬ v_steps_many ≤ 0 → (wp_X1_worth a1 a2 a3 v_steps_many v_pile v_steps_numbers (fun r_5 v_pile_4 => (v_use = 0 → (post (vmx (0 : Int32) (vmn r_5 (99 : Int32))) v_pile_4)) ∧ (¬ v_use = 0 → (post (vmx (0 : Int32) (vmn r_5 (999 : Int32))) v_pile_4)))))
def wp_X1_gives (a1 : Int32) (a2 : Int32) (a3 : Int32) (v_use : Int32) (v_steps_many : Int32) (v_pile : Nat → Int32) (v_steps_numbers : Nat → Int32) (post : Int32 → (Nat → Int32) → Prop) : Prop := (v_use = 0 → (wp_X1_gives_b15 a1 a2 a3 v_use v_steps_many v_steps_numbers post (20 : Int32) v_pile)) ∧ (¬ v_use = 0 → (wp_X1_gives_b15 a1 a2 a3 v_use v_steps_many v_steps_numbers post (a1 / (3 : Int32)) v_pile))
abbrev rm_X1_gives : Room := { frames := 2, cells := 0, slots := 0, locals := 48 }
abbrev Qc_X1_gives (K : vGl) (q_h q_h_steps q_h_pile q_h_steps_numbers : Nat)   (v_use : Int32) (v_steps_many : Int32) (v_steps_numbers : Nat → Int32) (post : Int32 → (Nat → Int32) → Prop) (A : Nat → Prop) : Array Value → State → Outcome → State → Prop := va_Qi (fun (r : Int32) (u : (Nat → Int32)) => post r u) (fun u t => vB K A [(q_h, .inr (0, [.ref q_h_steps, .ref q_h_pile, .int v_use])), (q_h_steps, .inr (2, [.ref q_h_steps_numbers, .int v_steps_many])), (q_h_pile, .inl (K.2.2.1, 50, .inl u)), (q_h_steps_numbers, .inl (K.2.2.1, 50, .inl v_steps_numbers))] t) A
set_option maxHeartbeats 4000000 in
set_option maxRecDepth 100000 in
theorem t_X1_gives_b15 {p : Program} {l : Launch} {e : Env} {s : State} {m : MethodId} {args : Array Value} {below : List Frame} {meth : Method} {c : Code} {A : Nat → Prop} {K : vGl} {q_h q_h_steps q_h_pile q_h_steps_numbers : Nat} {a1 : Int32} {a2 : Int32} {a3 : Int32} {v_use : Int32} {v_steps_many : Int32} {v_steps_numbers : Nat → Int32} {post : Int32 → (Nat → Int32) → Prop} (F : vFx p s m args meth c cX1_gives RX1 5 (some .int)) (hX : vX K A s) : ∀ (s0 : Int32) (v_pile : Nat → Int32) (H : Heap) (locs : List Loc) (ls : Array Slot), wp_X1_gives_b15 a1 a2 a3 v_use v_steps_many v_steps_numbers post s0 v_pile → va_P K.1 vwCl [(q_h, .inr (0, [.ref q_h_steps, .ref q_h_pile, .int v_use])), (q_h_steps, .inr (2, [.ref q_h_steps_numbers, .int v_steps_many])), (q_h_pile, .inl (K.2.2.1, 50, .inl v_pile)), (q_h_steps_numbers, .inl (K.2.2.1, 50, .inl v_steps_numbers))] H → va_D A [(q_h, .inr (0, [.ref q_h_steps, .ref q_h_pile, .int v_use])), (q_h_steps, .inr (2, [.ref q_h_steps_numbers, .int v_steps_many])), (q_h_pile, .inl (K.2.2.1, 50, .inl v_pile)), (q_h_steps_numbers, .inl (K.2.2.1, 50, .inl v_steps_numbers))] → va_S A s.heap H locs → lv_has ls 5 [(0, .ref q_h), (1, .int a1), (2, .int a2), (3, .int a3)] → W p l e rm_X1_gives s m args below meth c H locs 0 0 (MQ below (Qc_X1_gives K q_h q_h_steps q_h_pile q_h_steps_numbers v_use v_steps_many v_steps_numbers post A) args s 0 0 A) (F0 m 15 ls [.int s0]) := by
  obtain ⟨hx, hb, hml, hown, hts, hr, hlocks⟩ := id F
  intro s0 v_pile H locs ls hw hP hD hS hl
  unfold wp_X1_gives_b15 at hw
  refine lv_istore (lv' := [(4, .int s0), (0, .ref q_h), (1, .int a1), (2, .int a2), (3, .int a3)]) hx hb dX1_gives_15 hl (by decide) rfl (fun ls hl => ?_)
  refine lv_aload_n hx hb dX1_gives_17 rfl (lv_at hl 1 rfl) ?_
  refine va_get (D := K.1) (ci := 0) (v := .ref q_h_steps) (C := RX1) (T := TX1) (N := 3) hx hb hts iwX1 hown hX.1 hP 0 rfl rfl 0 (by decide) (hts _ k_118) (fun _ h9 => h9) rfl dX1_gives_18 ?_
  refine va_get (D := K.1) (ci := 2) (v := .int v_steps_many) (C := RX3) (T := TX3) (N := 2) hx hb hts iwX3 hown hX.1 hP 1 rfl rfl 1 (by decide) (hts _ k_108) (fun _ h9 => h9) rfl dX1_gives_21 ?_
  refine lv_if_le (tgt := 36) hx hb dX1_gives_24 (by decide) (fun c_2 => ?_) (fun c_2 => ?_)
  · have hw := hw.1 c_2
    refine lv_iconst (v := (0 : Int32)) hx hb dX1_gives_36 (by decide) ?_
    refine lv_iload hx hb dX1_gives_37 (lv_at hl 0 rfl) ?_
    refine lv_aload_n hx hb dX1_gives_39 rfl (lv_at hl 1 rfl) ?_
    refine va_get (D := K.1) (ci := 0) (v := .int v_use) (C := RX1) (T := TX1) (N := 3) hx hb hts iwX1 hown hX.1 hP 0 rfl rfl 2 (by decide) (hts _ k_122) (fun _ h9 => h9) rfl dX1_gives_40 ?_
    refine lv_if_ne (tgt := 51) hx hb dX1_gives_43 (by decide) (fun c_3 => ?_) (fun c_3 => ?_)
    · have hw := hw.2 c_3
      refine lv_sipush (v := (999 : Int32)) hx hb dX1_gives_51 (by decide) ?_
      refine va_mmin hx hb (by rw [hml]; exact hl.1.symm) hown (hts _ k_537) (hts _ k_380) (hts _ k_61) (hts _ k_381) (Nat.le_of_ble_eq_true rfl) (Nat.le_of_ble_eq_true rfl) (Nat.zero_le _) (Nat.zero_le _) dX1_gives_54 ?_
      refine va_mmax hx hb (by rw [hml]; exact hl.1.symm) hown (hts _ k_538) (hts _ k_100) (hts _ k_61) (hts _ k_101) (Nat.le_of_ble_eq_true rfl) (Nat.le_of_ble_eq_true rfl) (Nat.zero_le _) (Nat.zero_le _) dX1_gives_57 ?_
      exact W.iret (v := (vmx (0 : Int32) (vmn s0 (999 : Int32)))) hx hb hr (fun t ht hW => ⟨⟨(vmx (0 : Int32) (vmn s0 (999 : Int32))), v_pile, rfl, hw, by rw [ht]; exact hP, va_K.moved hW.alike hX.1, hD⟩, hS.F ht⟩) hS.2.2 dX1_gives_60 hlocks
    · have hw := hw.1 c_3
      refine lv_bipush (v := (99 : Int32)) hx hb dX1_gives_46 (by decide) ?_
      refine lv_goto (tgt := 54) hx hb dX1_gives_48 (by decide) ?_
      refine va_mmin hx hb (by rw [hml]; exact hl.1.symm) hown (hts _ k_537) (hts _ k_380) (hts _ k_61) (hts _ k_381) (Nat.le_of_ble_eq_true rfl) (Nat.le_of_ble_eq_true rfl) (Nat.zero_le _) (Nat.zero_le _) dX1_gives_54 ?_
      refine va_mmax hx hb (by rw [hml]; exact hl.1.symm) hown (hts _ k_538) (hts _ k_100) (hts _ k_61) (hts _ k_101) (Nat.le_of_ble_eq_true rfl) (Nat.le_of_ble_eq_true rfl) (Nat.zero_le _) (Nat.zero_le _) dX1_gives_57 ?_
      exact W.iret (v := (vmx (0 : Int32) (vmn s0 (99 : Int32)))) hx hb hr (fun t ht hW => ⟨⟨(vmx (0 : Int32) (vmn s0 (99 : Int32))), v_pile, rfl, hw, by rw [ht]; exact hP, va_K.moved hW.alike hX.1, hD⟩, hS.F ht⟩) hS.2.2 dX1_gives_60 hlocks
  · have hw := hw.2 c_2
    refine lv_aload_n hx hb dX1_gives_27 rfl (lv_at hl 1 rfl) ?_
    refine lv_iload_n hx hb dX1_gives_28 rfl (lv_at hl 2 rfl) ?_
    refine lv_iload_n hx hb dX1_gives_29 rfl (lv_at hl 3 rfl) ?_
    refine lv_iload_n hx hb dX1_gives_30 rfl (lv_at hl 4 rfl) ?_
    refine vCalli (K := K) (wr := []) (w1 := (fun (u : (Nat → Int32)) => [(q_h, .inr (0, [.ref q_h_steps, .ref q_h_pile, (.int v_use)])), (q_h_steps, .inr (2, [.ref q_h_steps_numbers, .int v_steps_many])), (q_h_pile, .inl (K.2.2.1, 50, .inl u)), (q_h_steps_numbers, .inl (K.2.2.1, 50, .inl v_steps_numbers))])) (va_runV (As := [.int a1, .int a2, .int a3]) (rest := []) ⟨hx, hb, hml, hown, hts⟩ (c_X1_worth l K q_h q_h_steps q_h_pile q_h_steps_numbers (.int v_use) H.size a1 a2 a3 v_steps_many v_pile v_steps_numbers _ hw) (cwV 3 hts (vGoodV k_530 k_532 k_7 k_59 k_533) rfl rfl rfl (by decide +kernel) ⟨Nat.le_of_ble_eq_true rfl, Nat.le_of_ble_eq_true rfl⟩) ⟨vPre_blind, va_recv hX.1 hP (ci := 0) (q0 := 0) rfl rfl, fun U hU hW => ⟨rfl, vPre_of hX hP hD hS [0, 1, 2, 3] rfl (by decide) U hU hW⟩⟩ rfl rfl hl.1 rfl (lv_room (Nat.le_of_ble_eq_true rfl)) dX1_gives_31 ⟨Nat.zero_le _, Nat.zero_le _⟩) hX hP hD hS [0, 1, 2, 3] [] rfl rfl (by decide) (by decide) (fun r_5 v_pile_4 H locs hw hP hD hS => ?_)
    have hP : va_P K.1 vwCl [(q_h, .inr (0, [.ref q_h_steps, .ref q_h_pile, .int v_use])), (q_h_steps, .inr (2, [.ref q_h_steps_numbers, .int v_steps_many])), (q_h_pile, .inl (K.2.2.1, 50, .inl v_pile_4)), (q_h_steps_numbers, .inl (K.2.2.1, 50, .inl v_steps_numbers))] H := hP.sub [0, 1, 2, 3] rfl
    have hD : va_D A [(q_h, .inr (0, [.ref q_h_steps, .ref q_h_pile, .int v_use])), (q_h_steps, .inr (2, [.ref q_h_steps_numbers, .int v_steps_many])), (q_h_pile, .inl (K.2.2.1, 50, .inl v_pile_4)), (q_h_steps_numbers, .inl (K.2.2.1, 50, .inl v_steps_numbers))] := hD.sub [0, 1, 2, 3] (by decide) rfl
    refine lv_istore (lv' := [(4, .int r_5), (0, .ref q_h), (1, .int a1), (2, .int a2), (3, .int a3)]) hx hb dX1_gives_34 hl (by decide) rfl (fun ls hl => ?_)
    refine lv_iconst (v := (0 : Int32)) hx hb dX1_gives_36 (by decide) ?_
    refine lv_iload hx hb dX1_gives_37 (lv_at hl 0 rfl) ?_
    refine lv_aload_n hx hb dX1_gives_39 rfl (lv_at hl 1 rfl) ?_
    refine va_get (D := K.1) (ci := 0) (v := .int v_use) (C := RX1) (T := TX1) (N := 3) hx hb hts iwX1 hown hX.1 hP 0 rfl rfl 2 (by decide) (hts _ k_122) (fun _ h9 => h9) rfl dX1_gives_40 ?_
    refine lv_if_ne (tgt := 51) hx hb dX1_gives_43 (by decide) (fun c_6 => ?_) (fun c_6 => ?_)
    · have hw := hw.2 c_6
      refine lv_sipush (v := (999 : Int32)) hx hb dX1_gives_51 (by decide) ?_
      refine va_mmin hx hb (by rw [hml]; exact hl.1.symm) hown (hts _ k_537) (hts _ k_380) (hts _ k_61) (hts _ k_381) (Nat.le_of_ble_eq_true rfl) (Nat.le_of_ble_eq_true rfl) (Nat.zero_le _) (Nat.zero_le _) dX1_gives_54 ?_
      refine va_mmax hx hb (by rw [hml]; exact hl.1.symm) hown (hts _ k_538) (hts _ k_100) (hts _ k_61) (hts _ k_101) (Nat.le_of_ble_eq_true rfl) (Nat.le_of_ble_eq_true rfl) (Nat.zero_le _) (Nat.zero_le _) dX1_gives_57 ?_
      exact W.iret (v := (vmx (0 : Int32) (vmn r_5 (999 : Int32)))) hx hb hr (fun t ht hW => ⟨⟨(vmx (0 : Int32) (vmn r_5 (999 : Int32))), v_pile_4, rfl, hw, by rw [ht]; exact hP, va_K.moved hW.alike hX.1, hD⟩, hS.F ht⟩) hS.2.2 dX1_gives_60 hlocks
    · have hw := hw.1 c_6
      refine lv_bipush (v := (99 : Int32)) hx hb dX1_gives_46 (by decide) ?_
      refine lv_goto (tgt := 54) hx hb dX1_gives_48 (by decide) ?_
      refine va_mmin hx hb (by rw [hml]; exact hl.1.symm) hown (hts _ k_537) (hts _ k_380) (hts _ k_61) (hts _ k_381) (Nat.le_of_ble_eq_true rfl) (Nat.le_of_ble_eq_true rfl) (Nat.zero_le _) (Nat.zero_le _) dX1_gives_54 ?_
      refine va_mmax hx hb (by rw [hml]; exact hl.1.symm) hown (hts _ k_538) (hts _ k_100) (hts _ k_61) (hts _ k_101) (Nat.le_of_ble_eq_true rfl) (Nat.le_of_ble_eq_true rfl) (Nat.zero_le _) (Nat.zero_le _) dX1_gives_57 ?_
      exact W.iret (v := (vmx (0 : Int32) (vmn r_5 (99 : Int32)))) hx hb hr (fun t ht hW => ⟨⟨(vmx (0 : Int32) (vmn r_5 (99 : Int32))), v_pile_4, rfl, hw, by rw [ht]; exact hP, va_K.moved hW.alike hX.1, hD⟩, hS.F ht⟩) hS.2.2 dX1_gives_60 hlocks
set_option maxHeartbeats 4000000 in
set_option maxRecDepth 100000 in
theorem c_X1_gives (l : Launch) (K : vGl) (q_h q_h_steps q_h_pile q_h_steps_numbers : Nat)   (sz : Nat) (a1 : Int32) (a2 : Int32) (a3 : Int32) (v_use : Int32) (v_steps_many : Int32) (v_pile : Nat → Int32) (v_steps_numbers : Nat → Int32) (post : Int32 → (Nat → Int32) → Prop) (hw : wp_X1_gives a1 a2 a3 v_use v_steps_many v_pile v_steps_numbers post) : Met l yX1_gives (.code yX1_gives cX1_gives 5 (some .int) :: vT) rm_X1_gives (va_Pc [.ref q_h, .int a1, .int a2, .int a3] (vPre K [(q_h, .inr (0, [.ref q_h_steps, .ref q_h_pile, .int v_use])), (q_h_steps, .inr (2, [.ref q_h_steps_numbers, .int v_steps_many])), (q_h_pile, .inl (K.2.2.1, 50, .inl v_pile)), (q_h_steps_numbers, .inl (K.2.2.1, 50, .inl v_steps_numbers))] sz)) (Qc_X1_gives K q_h q_h_steps q_h_pile q_h_steps_numbers v_use v_steps_many v_steps_numbers post (va_A [(q_h, .inr (0, [.ref q_h_steps, .ref q_h_pile, .int v_use])), (q_h_steps, .inr (2, [.ref q_h_steps_numbers, .int v_steps_many])), (q_h_pile, .inl (K.2.2.1, 50, .inl v_pile)), (q_h_steps_numbers, .inl (K.2.2.1, 50, .inl v_steps_numbers))] sz)) 0 0 (va_A [(q_h, .inr (0, [.ref q_h_steps, .ref q_h_pile, .int v_use])), (q_h_steps, .inr (2, [.ref q_h_steps_numbers, .int v_steps_many])), (q_h_pile, .inl (K.2.2.1, 50, .inl v_pile)), (q_h_steps_numbers, .inl (K.2.2.1, 50, .inl v_steps_numbers))] sz) := by
  unfold wp_X1_gives at hw
  refine Met.ofW (cc := cX1_gives) (maxL := 5) (ret := (some .int)) (by decide) rfl ?_
  intro p e s m args below meth c s₁ B hml hv
  obtain ⟨rfl, hsz, hP, hK, hD0, hG, hR⟩ := hv
  have hx := B.exec
  have hb := B.bytes
  have hr := B.returns
  have hts : ∀ w ∈ vT, w.before _ s = true := fun w h => atoms_spec (ws := .code yX1_gives cX1_gives 5 (some .int) :: vT) B.pre w (List.mem_cons_of_mem _ h)
  have hown : s.vm.findClass RX1 = some m.cls := findClass_of_methodNamed B.named
  have hlocks := B.notSynchronized
  subst hsz
  have hD := hD0.self (sz := s.heap.size)
  show W p l e (rm_X1_gives) s m _ below meth c s.heap [] 0 0 _ _
  generalize hAe : va_A [(q_h, .inr (0, [.ref q_h_steps, .ref q_h_pile, .int v_use])), (q_h_steps, .inr (2, [.ref q_h_steps_numbers, .int v_steps_many])), (q_h_pile, .inl (K.2.2.1, 50, .inl v_pile)), (q_h_steps_numbers, .inl (K.2.2.1, 50, .inl v_steps_numbers))] s.heap.size = A at hD hG ⊢
  have hX : vX K A s := ⟨hK, hG, hR, fun q h => by rw [← hAe]; exact Or.inr h⟩
  have hS : va_S A s.heap s.heap [] := va_S.rf
  have F : vFx p s m ([.ref q_h, .int a1, .int a2, .int a3] : List Value).toArray meth c cX1_gives RX1 5 (some .int) := ⟨hx, hb, hml, hown, hts, hr, hlocks⟩
  have hl := lv_entry ([.ref q_h, .int a1, .int a2, .int a3]) (n := 5) (Nat.le_of_ble_eq_true rfl)
  rw [lg_entry_eq]
  generalize (lg_sl ([.ref q_h, .int a1, .int a2, .int a3]) ++ List.replicate (5 - (lg_sl ([.ref q_h, .int a1, .int a2, .int a3])).length) Slot.unset).toArray = ls at hl ⊢
  have hl : lv_has ls 5 [(0, .ref q_h), (1, .int a1), (2, .int a2), (3, .int a3)] := hl
  obtain ⟨H, hHe⟩ : ∃ H, H = s.heap := ⟨_, rfl⟩
  have hS : va_S A s.heap H [] := by rw [hHe]; exact hS
  have hP : va_P K.1 vwCl [(q_h, .inr (0, [.ref q_h_steps, .ref q_h_pile, .int v_use])), (q_h_steps, .inr (2, [.ref q_h_steps_numbers, .int v_steps_many])), (q_h_pile, .inl (K.2.2.1, 50, .inl v_pile)), (q_h_steps_numbers, .inl (K.2.2.1, 50, .inl v_steps_numbers))] H := by rw [hHe]; exact hP
  refine vWH hHe ?_
  refine lv_aload_n hx hb dX1_gives_0 rfl (lv_at hl 0 rfl) ?_
  refine va_get (D := K.1) (ci := 0) (v := .int v_use) (C := RX1) (T := TX1) (N := 3) hx hb hts iwX1 hown hX.1 hP 0 rfl rfl 2 (by decide) (hts _ k_122) (fun _ h9 => h9) rfl dX1_gives_1 ?_
  refine lv_if_ne (tgt := 12) hx hb dX1_gives_4 (by decide) (fun c_1 => ?_) (fun c_1 => ?_)
  · have hw := hw.2 c_1
    refine lv_iload_n hx hb dX1_gives_12 rfl (lv_at hl 1 rfl) ?_
    refine lv_iconst (v := (3 : Int32)) hx hb dX1_gives_13 (by decide) ?_
    refine lv_idiv hx hb dX1_gives_14 (by decide) ?_
    exact t_X1_gives_b15 F hX _ _ _ _ _ hw hP hD hS (lv_sub hl [0, 1, 2, 3] rfl)
  · have hw := hw.1 c_1
    refine lv_bipush (v := (20 : Int32)) hx hb dX1_gives_7 (by decide) ?_
    refine lv_goto (tgt := 15) hx hb dX1_gives_9 (by decide) ?_
    exact t_X1_gives_b15 F hX _ _ _ _ _ hw hP hD hS (lv_sub hl [0, 1, 2, 3] rfl)
/-! OvenRings$Row.copyFrom(LOvenRings$Row;)V -/
def wp_X3_copyFrom (n_h : Nat) (n_p1 : Nat) (v_many : Int32) (v_p1_many : Int32) (v_numbers : Nat → Int32) (v_p1_numbers : Nat → Int32) (post : Int32 → (Nat → Int32) → Prop) : Prop := ((vmn v_p1_many (Int32.ofNat n_h)) < 0 → (post v_many v_numbers)) ∧ (¬ (vmn v_p1_many (Int32.ofNat n_h)) < 0 → (((Int32.ofNat n_p1) < (vmn v_p1_many (Int32.ofNat n_h)) → (post v_many v_numbers)) ∧ (¬ (Int32.ofNat n_p1) < (vmn v_p1_many (Int32.ofNat n_h)) → ((¬ (0 : Int32) < 0) ∧ ((¬ (0 : Int32) < 0) ∧ ((¬ (vmn v_p1_many (Int32.ofNat n_h)) < 0) ∧ (((0 : Int32).toNatClampNeg + (vmn v_p1_many (Int32.ofNat n_h)).toNatClampNeg ≤ n_p1) ∧ (((0 : Int32).toNatClampNeg + (vmn v_p1_many (Int32.ofNat n_h)).toNatClampNeg ≤ n_h) ∧ (post (vmn v_p1_many (Int32.ofNat n_h)) (va_cpy v_p1_numbers v_numbers (0 : Int32).toNatClampNeg (0 : Int32).toNatClampNeg (vmn v_p1_many (Int32.ofNat n_h)).toNatClampNeg))))))))))
abbrev rm_X3_copyFrom : Room := { frames := 1, cells := 0, slots := 0, locals := 60 }
abbrev Qc_X3_copyFrom (K : vGl) (q_h q_p1 q_h_numbers q_p1_numbers : Nat) (n_h n_p1 : Nat)  (v_p1_many : Int32) (v_p1_numbers : Nat → Int32) (post : Int32 → (Nat → Int32) → Prop) (A : Nat → Prop) : Array Value → State → Outcome → State → Prop := va_Qv (fun (u : Int32 × (Nat → Int32)) => post u.1 u.2) (fun u t => vB K A [(q_h, .inr (2, [.ref q_h_numbers, .int u.1])), (q_p1, .inr (2, [.ref q_p1_numbers, .int v_p1_many])), (q_h_numbers, .inl (K.2.2.1, n_h, .inl u.2)), (q_p1_numbers, .inl (K.2.2.1, n_p1, .inl v_p1_numbers))] t) A
set_option maxHeartbeats 4000000 in
set_option maxRecDepth 100000 in
theorem c_X3_copyFrom (l : Launch) (K : vGl) (q_h q_p1 q_h_numbers q_p1_numbers : Nat) (n_h n_p1 : Nat)  (sz : Nat) (v_many : Int32) (v_p1_many : Int32) (v_numbers : Nat → Int32) (v_p1_numbers : Nat → Int32) (post : Int32 → (Nat → Int32) → Prop) (hw : wp_X3_copyFrom n_h n_p1 v_many v_p1_many v_numbers v_p1_numbers post) : Met l yX3_copyFrom (.code yX3_copyFrom cX3_copyFrom 3 (none : Option Jvm.ClassFile.FieldType) :: vT) rm_X3_copyFrom (va_Pc [.ref q_h, .ref q_p1] (vPre K [(q_h, .inr (2, [.ref q_h_numbers, .int v_many])), (q_p1, .inr (2, [.ref q_p1_numbers, .int v_p1_many])), (q_h_numbers, .inl (K.2.2.1, n_h, .inl v_numbers)), (q_p1_numbers, .inl (K.2.2.1, n_p1, .inl v_p1_numbers))] sz)) (Qc_X3_copyFrom K q_h q_p1 q_h_numbers q_p1_numbers n_h n_p1 v_p1_many v_p1_numbers post (va_A [(q_h, .inr (2, [.ref q_h_numbers, .int v_many])), (q_p1, .inr (2, [.ref q_p1_numbers, .int v_p1_many])), (q_h_numbers, .inl (K.2.2.1, n_h, .inl v_numbers)), (q_p1_numbers, .inl (K.2.2.1, n_p1, .inl v_p1_numbers))] sz)) 0 0 (va_A [(q_h, .inr (2, [.ref q_h_numbers, .int v_many])), (q_p1, .inr (2, [.ref q_p1_numbers, .int v_p1_many])), (q_h_numbers, .inl (K.2.2.1, n_h, .inl v_numbers)), (q_p1_numbers, .inl (K.2.2.1, n_p1, .inl v_p1_numbers))] sz) := by
  unfold wp_X3_copyFrom at hw
  refine Met.ofW (cc := cX3_copyFrom) (maxL := 3) (ret := (none : Option Jvm.ClassFile.FieldType)) (by decide) rfl ?_
  intro p e s m args below meth c s₁ B hml hv
  obtain ⟨rfl, hsz, hP, hK, hD0, hG, hR⟩ := hv
  have hx := B.exec
  have hb := B.bytes
  have hr := B.returns
  have hts : ∀ w ∈ vT, w.before _ s = true := fun w h => atoms_spec (ws := .code yX3_copyFrom cX3_copyFrom 3 (none : Option Jvm.ClassFile.FieldType) :: vT) B.pre w (List.mem_cons_of_mem _ h)
  have hown : s.vm.findClass RX3 = some m.cls := findClass_of_methodNamed B.named
  have hlocks := B.notSynchronized
  subst hsz
  have hD := hD0.self (sz := s.heap.size)
  show W p l e (rm_X3_copyFrom) s m _ below meth c s.heap [] 0 0 _ _
  generalize hAe : va_A [(q_h, .inr (2, [.ref q_h_numbers, .int v_many])), (q_p1, .inr (2, [.ref q_p1_numbers, .int v_p1_many])), (q_h_numbers, .inl (K.2.2.1, n_h, .inl v_numbers)), (q_p1_numbers, .inl (K.2.2.1, n_p1, .inl v_p1_numbers))] s.heap.size = A at hD hG ⊢
  have hX : vX K A s := ⟨hK, hG, hR, fun q h => by rw [← hAe]; exact Or.inr h⟩
  have hS : va_S A s.heap s.heap [] := va_S.rf
  have F : vFx p s m ([.ref q_h, .ref q_p1] : List Value).toArray meth c cX3_copyFrom RX3 3 (none : Option Jvm.ClassFile.FieldType) := ⟨hx, hb, hml, hown, hts, hr, hlocks⟩
  have hl := lv_entry ([.ref q_h, .ref q_p1]) (n := 3) (Nat.le_of_ble_eq_true rfl)
  rw [lg_entry_eq]
  generalize (lg_sl ([.ref q_h, .ref q_p1]) ++ List.replicate (3 - (lg_sl ([.ref q_h, .ref q_p1])).length) Slot.unset).toArray = ls at hl ⊢
  have hl : lv_has ls 3 [(0, .ref q_h), (1, .ref q_p1)] := hl
  obtain ⟨H, hHe⟩ : ∃ H, H = s.heap := ⟨_, rfl⟩
  have hS : va_S A s.heap H [] := by rw [hHe]; exact hS
  have hP : va_P K.1 vwCl [(q_h, .inr (2, [.ref q_h_numbers, .int v_many])), (q_p1, .inr (2, [.ref q_p1_numbers, .int v_p1_many])), (q_h_numbers, .inl (K.2.2.1, n_h, .inl v_numbers)), (q_p1_numbers, .inl (K.2.2.1, n_p1, .inl v_p1_numbers))] H := by rw [hHe]; exact hP
  refine vWH hHe ?_
  refine lv_aload_n hx hb dX3_copyFrom_0 rfl (lv_at hl 1 rfl) ?_
  refine va_get (D := K.1) (ci := 2) (v := .int v_p1_many) (C := RX3) (T := TX3) (N := 2) hx hb hts iwX3 hown hX.1 hP 1 rfl rfl 1 (by decide) (hts _ k_106) (fun _ h9 => h9) rfl dX3_copyFrom_1 ?_
  refine lv_aload_n hx hb dX3_copyFrom_4 rfl (lv_at hl 0 rfl) ?_
  refine va_get (D := K.1) (ci := 2) (v := .ref q_h_numbers) (C := RX3) (T := TX3) (N := 2) hx hb hts iwX3 hown hX.1 hP 0 rfl rfl 0 (by decide) (hts _ k_102) (fun _ h9 => h9) rfl dX3_copyFrom_5 ?_
  refine va_alen (v := (Int32.ofNat n_h)) hx hb hX.1 hP 2 0 rfl rfl rfl dX3_copyFrom_8 ?_
  refine va_mmin hx hb (by rw [hml]; exact hl.1.symm) hown (hts _ k_441) (hts _ k_380) (hts _ k_61) (hts _ k_381) (Nat.le_of_ble_eq_true rfl) (Nat.le_of_ble_eq_true rfl) (Nat.zero_le _) (Nat.zero_le _) dX3_copyFrom_9 ?_
  refine lv_istore_n (lv' := [(2, .int (vmn v_p1_many (Int32.ofNat n_h))), (0, .ref q_h), (1, .ref q_p1)]) hx hb dX3_copyFrom_12 rfl hl (by decide) rfl (fun ls hl => ?_)
  refine lv_iload_n hx hb dX3_copyFrom_13 rfl (lv_at hl 0 rfl) ?_
  refine lv_if_lt (tgt := 45) hx hb dX3_copyFrom_14 (by decide) (fun c_1 => ?_) (fun c_1 => ?_)
  · have hw := hw.1 c_1
    exact W.vret hx hb hr (fun t ht hW => ⟨⟨(v_many, v_numbers), rfl, hw, by rw [ht]; exact hP, va_K.moved hW.alike hX.1, hD⟩, hS.F ht⟩) hS.2.2 dX3_copyFrom_45 hlocks
  · have hw := hw.2 c_1
    refine lv_iload_n hx hb dX3_copyFrom_17 rfl (lv_at hl 0 rfl) ?_
    refine lv_aload_n hx hb dX3_copyFrom_18 rfl (lv_at hl 2 rfl) ?_
    refine va_get (D := K.1) (ci := 2) (v := .ref q_p1_numbers) (C := RX3) (T := TX3) (N := 2) hx hb hts iwX3 hown hX.1 hP 1 rfl rfl 0 (by decide) (hts _ k_102) (fun _ h9 => h9) rfl dX3_copyFrom_19 ?_
    refine va_alen (v := (Int32.ofNat n_p1)) hx hb hX.1 hP 3 0 rfl rfl rfl dX3_copyFrom_22 ?_
    refine lv_icmp_gt (tgt := 45) hx hb dX3_copyFrom_23 (by decide) (fun c_2 => ?_) (fun c_2 => ?_)
    · have hw := hw.1 c_2
      exact W.vret hx hb hr (fun t ht hW => ⟨⟨(v_many, v_numbers), rfl, hw, by rw [ht]; exact hP, va_K.moved hW.alike hX.1, hD⟩, hS.F ht⟩) hS.2.2 dX3_copyFrom_45 hlocks
    · have hw := hw.2 c_2
      refine lv_aload_n hx hb dX3_copyFrom_26 rfl (lv_at hl 2 rfl) ?_
      refine va_get (D := K.1) (ci := 2) (v := .ref q_p1_numbers) (C := RX3) (T := TX3) (N := 2) hx hb hts iwX3 hown hX.1 hP 1 rfl rfl 0 (by decide) (hts _ k_102) (fun _ h9 => h9) rfl dX3_copyFrom_27 ?_
      refine lv_iconst (v := (0 : Int32)) hx hb dX3_copyFrom_30 (by decide) ?_
      refine lv_aload_n hx hb dX3_copyFrom_31 rfl (lv_at hl 1 rfl) ?_
      refine va_get (D := K.1) (ci := 2) (v := .ref q_h_numbers) (C := RX3) (T := TX3) (N := 2) hx hb hts iwX3 hown hX.1 hP 0 rfl rfl 0 (by decide) (hts _ k_102) (fun _ h9 => h9) rfl dX3_copyFrom_32 ?_
      refine lv_iconst (v := (0 : Int32)) hx hb dX3_copyFrom_35 (by decide) ?_
      refine lv_iload_n hx hb dX3_copyFrom_36 rfl (lv_at hl 0 rfl) ?_
      refine va_copyi hx hb (by rw [hml]; exact hl.1.symm) hown (hts _ k_442) (hts _ k_444) (hts _ k_443) (hts _ k_67) hX.1 hP hD hS 3 2 0 0 rfl rfl rfl rfl rfl hw.1 hw.2.1 hw.2.2.1 hw.2.2.2.1 hw.2.2.2.2.1 (fun _ _ => rfl) (Nat.le_of_ble_eq_true rfl) (Nat.le_of_ble_eq_true rfl) dX3_copyFrom_37 (fun H locs hP hD hS => ?_)
      have hP : va_P K.1 vwCl [(q_h, .inr (2, [.ref q_h_numbers, .int v_many])), (q_p1, .inr (2, [.ref q_p1_numbers, .int v_p1_many])), (q_h_numbers, .inl (K.2.2.1, n_h, .inl (va_cpy v_p1_numbers v_numbers (0 : Int32).toNatClampNeg (0 : Int32).toNatClampNeg (vmn v_p1_many (Int32.ofNat n_h)).toNatClampNeg))), (q_p1_numbers, .inl (K.2.2.1, n_p1, .inl v_p1_numbers))] H := hP
      have hD : va_D A [(q_h, .inr (2, [.ref q_h_numbers, .int v_many])), (q_p1, .inr (2, [.ref q_p1_numbers, .int v_p1_many])), (q_h_numbers, .inl (K.2.2.1, n_h, .inl (va_cpy v_p1_numbers v_numbers (0 : Int32).toNatClampNeg (0 : Int32).toNatClampNeg (vmn v_p1_many (Int32.ofNat n_h)).toNatClampNeg))), (q_p1_numbers, .inl (K.2.2.1, n_p1, .inl v_p1_numbers))] := hD
      have hw := hw.2.2.2.2.2
      refine lv_aload_n hx hb dX3_copyFrom_40 rfl (lv_at hl 1 rfl) ?_
      refine lv_iload_n hx hb dX3_copyFrom_41 rfl (lv_at hl 0 rfl) ?_
      refine va_put (D := K.1) (ci := 2) (v := .int (vmn v_p1_many (Int32.ofNat n_h))) (ty := .int) (C := RX3) (T := TX3) (N := 2) hx hb hts iwX3 tyX3 tyX3_ok nmX3 hown hX.1 hP hD hS 0 rfl rfl 1 (by decide) (hts _ k_106) (fun _ h9 => h9) rfl (by decide +kernel) rfl rfl (Nat.le_of_ble_eq_true rfl) dX3_copyFrom_42 (fun H locs hP hD hS => ?_)
      have hP : va_P K.1 vwCl [(q_h, .inr (2, [.ref q_h_numbers, .int (vmn v_p1_many (Int32.ofNat n_h))])), (q_p1, .inr (2, [.ref q_p1_numbers, .int v_p1_many])), (q_h_numbers, .inl (K.2.2.1, n_h, .inl (va_cpy v_p1_numbers v_numbers (0 : Int32).toNatClampNeg (0 : Int32).toNatClampNeg (vmn v_p1_many (Int32.ofNat n_h)).toNatClampNeg))), (q_p1_numbers, .inl (K.2.2.1, n_p1, .inl v_p1_numbers))] H := hP
      have hD : va_D A [(q_h, .inr (2, [.ref q_h_numbers, .int (vmn v_p1_many (Int32.ofNat n_h))])), (q_p1, .inr (2, [.ref q_p1_numbers, .int v_p1_many])), (q_h_numbers, .inl (K.2.2.1, n_h, .inl (va_cpy v_p1_numbers v_numbers (0 : Int32).toNatClampNeg (0 : Int32).toNatClampNeg (vmn v_p1_many (Int32.ofNat n_h)).toNatClampNeg))), (q_p1_numbers, .inl (K.2.2.1, n_p1, .inl v_p1_numbers))] := hD
      exact W.vret hx hb hr (fun t ht hW => ⟨⟨((vmn v_p1_many (Int32.ofNat n_h)), (va_cpy v_p1_numbers v_numbers (0 : Int32).toNatClampNeg (0 : Int32).toNatClampNeg (vmn v_p1_many (Int32.ofNat n_h)).toNatClampNeg)), rfl, hw, by rw [ht]; exact hP, va_K.moved hW.alike hX.1, hD⟩, hS.F ht⟩) hS.2.2 dX3_copyFrom_45 hlocks
/-! OvenRings$Row.has(I)Z -/
def wp_X3_has (n_h : Nat) (a1 : Int32) (v_many : Int32) (post : Int32 → Prop) : Prop := (a1 < 0 → (post (0 : Int32))) ∧ (¬ a1 < 0 → ((v_many ≤ a1 → (post (0 : Int32))) ∧ (¬ v_many ≤ a1 → (((Int32.ofNat n_h) ≤ a1 → (post (0 : Int32))) ∧ (¬ (Int32.ofNat n_h) ≤ a1 → (post (1 : Int32)))))))
abbrev rm_X3_has : Room := { frames := 0, cells := 0, slots := 0, locals := 0 }
abbrev Qc_X3_has (K : vGl) (q_h q_h_numbers : Nat) (n_h : Nat) (ga_h_numbers : Nat → Int32) (v_many : Int32) (post : Int32 → Prop) (A : Nat → Prop) : Array Value → State → Outcome → State → Prop := va_Qi (fun (r : Int32) (u : Unit) => (r = 0 ∨ r = 1) ∧ post r ) (fun u t => vB K A [(q_h, .inr (2, [.ref q_h_numbers, .int v_many])), (q_h_numbers, .inl (K.2.2.1, n_h, .inl ga_h_numbers))] t) A
set_option maxHeartbeats 4000000 in
set_option maxRecDepth 100000 in
theorem c_X3_has (l : Launch) (K : vGl) (q_h q_h_numbers : Nat) (n_h : Nat) (ga_h_numbers : Nat → Int32) (sz : Nat) (a1 : Int32) (v_many : Int32) (post : Int32 → Prop) (hw : wp_X3_has n_h a1 v_many post) : Met l yX3_has (.code yX3_has cX3_has 2 (some .boolean) :: vT) rm_X3_has (va_Pc [.ref q_h, .int a1] (vPre K [(q_h, .inr (2, [.ref q_h_numbers, .int v_many])), (q_h_numbers, .inl (K.2.2.1, n_h, .inl ga_h_numbers))] sz)) (Qc_X3_has K q_h q_h_numbers n_h ga_h_numbers v_many post (va_A [(q_h, .inr (2, [.ref q_h_numbers, .int v_many])), (q_h_numbers, .inl (K.2.2.1, n_h, .inl ga_h_numbers))] sz)) 0 0 (va_A [(q_h, .inr (2, [.ref q_h_numbers, .int v_many])), (q_h_numbers, .inl (K.2.2.1, n_h, .inl ga_h_numbers))] sz) := by
  unfold wp_X3_has at hw
  refine Met.ofW (cc := cX3_has) (maxL := 2) (ret := (some .boolean)) (by decide) rfl ?_
  intro p e s m args below meth c s₁ B hml hv
  obtain ⟨rfl, hsz, hP, hK, hD0, hG, hR⟩ := hv
  have hx := B.exec
  have hb := B.bytes
  have hr := B.returns
  have hts : ∀ w ∈ vT, w.before _ s = true := fun w h => atoms_spec (ws := .code yX3_has cX3_has 2 (some .boolean) :: vT) B.pre w (List.mem_cons_of_mem _ h)
  have hown : s.vm.findClass RX3 = some m.cls := findClass_of_methodNamed B.named
  have hlocks := B.notSynchronized
  subst hsz
  have hD := hD0.self (sz := s.heap.size)
  show W p l e (rm_X3_has) s m _ below meth c s.heap [] 0 0 _ _
  generalize hAe : va_A [(q_h, .inr (2, [.ref q_h_numbers, .int v_many])), (q_h_numbers, .inl (K.2.2.1, n_h, .inl ga_h_numbers))] s.heap.size = A at hD hG ⊢
  have hX : vX K A s := ⟨hK, hG, hR, fun q h => by rw [← hAe]; exact Or.inr h⟩
  have hS : va_S A s.heap s.heap [] := va_S.rf
  have F : vFx p s m ([.ref q_h, .int a1] : List Value).toArray meth c cX3_has RX3 2 (some .boolean) := ⟨hx, hb, hml, hown, hts, hr, hlocks⟩
  have hl := lv_entry ([.ref q_h, .int a1]) (n := 2) (Nat.le_of_ble_eq_true rfl)
  rw [lg_entry_eq]
  generalize (lg_sl ([.ref q_h, .int a1]) ++ List.replicate (2 - (lg_sl ([.ref q_h, .int a1])).length) Slot.unset).toArray = ls at hl ⊢
  have hl : lv_has ls 2 [(0, .ref q_h), (1, .int a1)] := hl
  obtain ⟨H, hHe⟩ : ∃ H, H = s.heap := ⟨_, rfl⟩
  have hS : va_S A s.heap H [] := by rw [hHe]; exact hS
  have hP : va_P K.1 vwCl [(q_h, .inr (2, [.ref q_h_numbers, .int v_many])), (q_h_numbers, .inl (K.2.2.1, n_h, .inl ga_h_numbers))] H := by rw [hHe]; exact hP
  refine vWH hHe ?_
  refine lv_iload_n hx hb dX3_has_0 rfl (lv_at hl 1 rfl) ?_
  refine lv_if_lt (tgt := 25) hx hb dX3_has_1 (by decide) (fun c_1 => ?_) (fun c_1 => ?_)
  · have hw := hw.1 c_1
    refine lv_iconst (v := (0 : Int32)) hx hb dX3_has_25 (by decide) ?_
    exact W.zret (v := (0 : Int32)) hx hb hr vZ0 (fun t ht hW => ⟨⟨(0 : Int32), (), rfl, ⟨Or.inl rfl, hw⟩, by rw [ht]; exact hP, va_K.moved hW.alike hX.1, hD⟩, hS.F ht⟩) hS.2.2 dX3_has_26 hlocks
  · have hw := hw.2 c_1
    refine lv_iload_n hx hb dX3_has_4 rfl (lv_at hl 1 rfl) ?_
    refine lv_aload_n hx hb dX3_has_5 rfl (lv_at hl 0 rfl) ?_
    refine va_get (D := K.1) (ci := 2) (v := .int v_many) (C := RX3) (T := TX3) (N := 2) hx hb hts iwX3 hown hX.1 hP 0 rfl rfl 1 (by decide) (hts _ k_106) (fun _ h9 => h9) rfl dX3_has_6 ?_
    refine lv_icmp_ge (tgt := 25) hx hb dX3_has_9 (by decide) (fun c_2 => ?_) (fun c_2 => ?_)
    · have hw := hw.1 c_2
      refine lv_iconst (v := (0 : Int32)) hx hb dX3_has_25 (by decide) ?_
      exact W.zret (v := (0 : Int32)) hx hb hr vZ0 (fun t ht hW => ⟨⟨(0 : Int32), (), rfl, ⟨Or.inl rfl, hw⟩, by rw [ht]; exact hP, va_K.moved hW.alike hX.1, hD⟩, hS.F ht⟩) hS.2.2 dX3_has_26 hlocks
    · have hw := hw.2 c_2
      refine lv_iload_n hx hb dX3_has_12 rfl (lv_at hl 1 rfl) ?_
      refine lv_aload_n hx hb dX3_has_13 rfl (lv_at hl 0 rfl) ?_
      refine va_get (D := K.1) (ci := 2) (v := .ref q_h_numbers) (C := RX3) (T := TX3) (N := 2) hx hb hts iwX3 hown hX.1 hP 0 rfl rfl 0 (by decide) (hts _ k_102) (fun _ h9 => h9) rfl dX3_has_14 ?_
      refine va_alen (v := (Int32.ofNat n_h)) hx hb hX.1 hP 1 0 rfl rfl rfl dX3_has_17 ?_
      refine lv_icmp_ge (tgt := 25) hx hb dX3_has_18 (by decide) (fun c_3 => ?_) (fun c_3 => ?_)
      · have hw := hw.1 c_3
        refine lv_iconst (v := (0 : Int32)) hx hb dX3_has_25 (by decide) ?_
        exact W.zret (v := (0 : Int32)) hx hb hr vZ0 (fun t ht hW => ⟨⟨(0 : Int32), (), rfl, ⟨Or.inl rfl, hw⟩, by rw [ht]; exact hP, va_K.moved hW.alike hX.1, hD⟩, hS.F ht⟩) hS.2.2 dX3_has_26 hlocks
      · have hw := hw.2 c_3
        refine lv_iconst (v := (1 : Int32)) hx hb dX3_has_21 (by decide) ?_
        refine lv_goto (tgt := 26) hx hb dX3_has_22 (by decide) ?_
        exact W.zret (v := (1 : Int32)) hx hb hr vZ1 (fun t ht hW => ⟨⟨(1 : Int32), (), rfl, ⟨Or.inr rfl, hw⟩, by rw [ht]; exact hP, va_K.moved hW.alike hX.1, hD⟩, hS.F ht⟩) hS.2.2 dX3_has_26 hlocks
/-! OvenRings$Reader.next()I -/
def wp_X2_next (v_at : Int32) (v_bytes_many : Int32) (v_bytes_numbers : Nat → Int32) (post : Int32 → Prop) : Prop := wp_X3_has 50 v_at v_bytes_many (fun r_1 => (r_1 = 0 → (post (-1 : Int32))) ∧ (¬ r_1 = 0 → (vp_in v_at 50 ∧ (post (v_bytes_numbers v_at.toNatClampNeg)))))
abbrev rm_X2_next : Room := { frames := 1, cells := 0, slots := 0, locals := 21 }
abbrev Qc_X2_next (K : vGl) (q_h q_h_bytes q_h_bytes_numbers : Nat)  (g_h_steps : Value) (g_h_names : Value) (v_at : Int32) (v_bytes_many : Int32) (v_bytes_numbers : Nat → Int32) (post : Int32 → Prop) (A : Nat → Prop) : Array Value → State → Outcome → State → Prop := va_Qi (fun (r : Int32) (u : Unit) => post r ) (fun u t => vB K A [(q_h, .inr (1, [g_h_steps, .ref q_h_bytes, g_h_names, .int v_at])), (q_h_bytes, .inr (2, [.ref q_h_bytes_numbers, .int v_bytes_many])), (q_h_bytes_numbers, .inl (K.2.2.1, 50, .inl v_bytes_numbers))] t) A
set_option maxHeartbeats 4000000 in
set_option maxRecDepth 100000 in
theorem c_X2_next (l : Launch) (K : vGl) (q_h q_h_bytes q_h_bytes_numbers : Nat)  (g_h_steps : Value) (g_h_names : Value) (sz : Nat) (v_at : Int32) (v_bytes_many : Int32) (v_bytes_numbers : Nat → Int32) (post : Int32 → Prop) (hw : wp_X2_next v_at v_bytes_many v_bytes_numbers post) : Met l yX2_next (.code yX2_next cX2_next 1 (some .int) :: vT) rm_X2_next (va_Pc [.ref q_h] (vPre K [(q_h, .inr (1, [g_h_steps, .ref q_h_bytes, g_h_names, .int v_at])), (q_h_bytes, .inr (2, [.ref q_h_bytes_numbers, .int v_bytes_many])), (q_h_bytes_numbers, .inl (K.2.2.1, 50, .inl v_bytes_numbers))] sz)) (Qc_X2_next K q_h q_h_bytes q_h_bytes_numbers g_h_steps g_h_names v_at v_bytes_many v_bytes_numbers post (va_A [(q_h, .inr (1, [g_h_steps, .ref q_h_bytes, g_h_names, .int v_at])), (q_h_bytes, .inr (2, [.ref q_h_bytes_numbers, .int v_bytes_many])), (q_h_bytes_numbers, .inl (K.2.2.1, 50, .inl v_bytes_numbers))] sz)) 0 0 (va_A [(q_h, .inr (1, [g_h_steps, .ref q_h_bytes, g_h_names, .int v_at])), (q_h_bytes, .inr (2, [.ref q_h_bytes_numbers, .int v_bytes_many])), (q_h_bytes_numbers, .inl (K.2.2.1, 50, .inl v_bytes_numbers))] sz) := by
  unfold wp_X2_next at hw
  refine Met.ofW (cc := cX2_next) (maxL := 1) (ret := (some .int)) (by decide) rfl ?_
  intro p e s m args below meth c s₁ B hml hv
  obtain ⟨rfl, hsz, hP, hK, hD0, hG, hR⟩ := hv
  have hx := B.exec
  have hb := B.bytes
  have hr := B.returns
  have hts : ∀ w ∈ vT, w.before _ s = true := fun w h => atoms_spec (ws := .code yX2_next cX2_next 1 (some .int) :: vT) B.pre w (List.mem_cons_of_mem _ h)
  have hown : s.vm.findClass RX2 = some m.cls := findClass_of_methodNamed B.named
  have hlocks := B.notSynchronized
  subst hsz
  have hD := hD0.self (sz := s.heap.size)
  show W p l e (rm_X2_next) s m _ below meth c s.heap [] 0 0 _ _
  generalize hAe : va_A [(q_h, .inr (1, [g_h_steps, .ref q_h_bytes, g_h_names, .int v_at])), (q_h_bytes, .inr (2, [.ref q_h_bytes_numbers, .int v_bytes_many])), (q_h_bytes_numbers, .inl (K.2.2.1, 50, .inl v_bytes_numbers))] s.heap.size = A at hD hG ⊢
  have hX : vX K A s := ⟨hK, hG, hR, fun q h => by rw [← hAe]; exact Or.inr h⟩
  have hS : va_S A s.heap s.heap [] := va_S.rf
  have F : vFx p s m ([.ref q_h] : List Value).toArray meth c cX2_next RX2 1 (some .int) := ⟨hx, hb, hml, hown, hts, hr, hlocks⟩
  have hl := lv_entry ([.ref q_h]) (n := 1) (Nat.le_of_ble_eq_true rfl)
  rw [lg_entry_eq]
  generalize (lg_sl ([.ref q_h]) ++ List.replicate (1 - (lg_sl ([.ref q_h])).length) Slot.unset).toArray = ls at hl ⊢
  have hl : lv_has ls 1 [(0, .ref q_h)] := hl
  obtain ⟨H, hHe⟩ : ∃ H, H = s.heap := ⟨_, rfl⟩
  have hS : va_S A s.heap H [] := by rw [hHe]; exact hS
  have hP : va_P K.1 vwCl [(q_h, .inr (1, [g_h_steps, .ref q_h_bytes, g_h_names, .int v_at])), (q_h_bytes, .inr (2, [.ref q_h_bytes_numbers, .int v_bytes_many])), (q_h_bytes_numbers, .inl (K.2.2.1, 50, .inl v_bytes_numbers))] H := by rw [hHe]; exact hP
  refine vWH hHe ?_
  refine lv_aload_n hx hb dX2_next_0 rfl (lv_at hl 0 rfl) ?_
  refine va_get (D := K.1) (ci := 1) (v := .ref q_h_bytes) (C := RX2) (T := TX2) (N := 4) hx hb hts iwX2 hown hX.1 hP 0 rfl rfl 1 (by decide) (hts _ k_211) (fun _ h9 => h9) rfl dX2_next_1 ?_
  refine lv_aload_n hx hb dX2_next_4 rfl (lv_at hl 0 rfl) ?_
  refine va_get (D := K.1) (ci := 1) (v := .int v_at) (C := RX2) (T := TX2) (N := 4) hx hb hts iwX2 hown hX.1 hP 0 rfl rfl 3 (by decide) (hts _ k_213) (fun _ h9 => h9) rfl dX2_next_5 ?_
  refine vCalli (K := K) (wr := [(q_h, .inr (1, [g_h_steps, .ref q_h_bytes, g_h_names, .int v_at]))]) (w1 := (fun _ => [(q_h_bytes, .inr (2, [.ref q_h_bytes_numbers, .int v_bytes_many])), (q_h_bytes_numbers, .inl (K.2.2.1, 50, .inl v_bytes_numbers))])) (va_runV (As := [.int v_at]) (rest := []) ⟨hx, hb, hml, hown, hts⟩ (c_X3_has l K q_h_bytes q_h_bytes_numbers 50 v_bytes_numbers H.size v_at v_bytes_many _ hw) (cwV 1 hts (vGoodV k_457 k_458 k_459 k_60 k_460) rfl rfl rfl (by decide +kernel) ⟨Nat.le_of_ble_eq_true rfl, Nat.le_of_ble_eq_true rfl⟩) ⟨vPre_blind, va_recv hX.1 hP (ci := 2) (q0 := 1) rfl rfl, fun U hU hW => ⟨rfl, vPre_of hX hP hD hS [1, 2] rfl (by decide) U hU hW⟩⟩ rfl rfl hl.1 rfl (lv_room (Nat.le_of_ble_eq_true rfl)) dX2_next_8 ⟨Nat.zero_le _, Nat.zero_le _⟩) hX hP hD hS [1, 2] [0] rfl rfl (by decide) (by decide) (fun r_1 u H locs hw hP hD hS => ?_)
  have hP : va_P K.1 vwCl [(q_h, .inr (1, [g_h_steps, .ref q_h_bytes, g_h_names, .int v_at])), (q_h_bytes, .inr (2, [.ref q_h_bytes_numbers, .int v_bytes_many])), (q_h_bytes_numbers, .inl (K.2.2.1, 50, .inl v_bytes_numbers))] H := hP.sub [0, 1, 2] rfl
  have hD : va_D A [(q_h, .inr (1, [g_h_steps, .ref q_h_bytes, g_h_names, .int v_at])), (q_h_bytes, .inr (2, [.ref q_h_bytes_numbers, .int v_bytes_many])), (q_h_bytes_numbers, .inl (K.2.2.1, 50, .inl v_bytes_numbers))] := hD.sub [0, 1, 2] (by decide) rfl
  have hz_r_1 := hw.1
  have hw := hw.2
  refine lv_if_eq (tgt := 29) hx hb dX2_next_11 (by decide) (fun c_2 => ?_) (fun c_2 => ?_)
  · have hw := hw.1 c_2
    refine lv_iconst (v := (-1 : Int32)) hx hb dX2_next_29 (by decide) ?_
    exact W.iret (v := (-1 : Int32)) hx hb hr (fun t ht hW => ⟨⟨(-1 : Int32), (), rfl, hw, by rw [ht]; exact hP, va_K.moved hW.alike hX.1, hD⟩, hS.F ht⟩) hS.2.2 dX2_next_30 hlocks
  · have hw := hw.2 c_2
    refine lv_aload_n hx hb dX2_next_14 rfl (lv_at hl 0 rfl) ?_
    refine va_get (D := K.1) (ci := 1) (v := .ref q_h_bytes) (C := RX2) (T := TX2) (N := 4) hx hb hts iwX2 hown hX.1 hP 0 rfl rfl 1 (by decide) (hts _ k_211) (fun _ h9 => h9) rfl dX2_next_15 ?_
    refine va_get (D := K.1) (ci := 2) (v := .ref q_h_bytes_numbers) (C := RX3) (T := TX3) (N := 2) hx hb hts iwX3 hown hX.1 hP 1 rfl rfl 0 (by decide) (hts _ k_104) (fun _ h9 => h9) rfl dX2_next_18 ?_
    refine lv_aload_n hx hb dX2_next_21 rfl (lv_at hl 0 rfl) ?_
    refine va_get (D := K.1) (ci := 1) (v := .int v_at) (C := RX2) (T := TX2) (N := 4) hx hb hts iwX2 hown hX.1 hP 0 rfl rfl 3 (by decide) (hts _ k_213) (fun _ h9 => h9) rfl dX2_next_22 ?_
    refine va_iald hx hb hX.1 hP 2 0 rfl rfl hw.1 dX2_next_25 ?_
    have hw := hw.2
    refine lv_goto (tgt := 30) hx hb dX2_next_26 (by decide) ?_
    exact W.iret (v := (v_bytes_numbers v_at.toNatClampNeg)) hx hb hr (fun t ht hW => ⟨⟨(v_bytes_numbers v_at.toNatClampNeg), (), rfl, hw, by rw [ht]; exact hP, va_K.moved hW.alike hX.1, hD⟩, hS.F ht⟩) hS.2.2 dX2_next_30 hlocks
/-! OvenRings$Row.add(I)Z -/
def wp_X3_add (n_h : Nat) (a1 : Int32) (v_many : Int32) (v_numbers : Nat → Int32) (post : Int32 → Int32 → (Nat → Int32) → Prop) : Prop := (v_many < 0 → (post (0 : Int32) v_many v_numbers)) ∧ (¬ v_many < 0 → ((v_many < (Int32.ofNat n_h) → (vp_in v_many n_h ∧ (post (1 : Int32) (v_many + (1 : Int32)) (upd v_numbers v_many.toNatClampNeg a1)))) ∧ (¬ v_many < (Int32.ofNat n_h) → (post (0 : Int32) v_many v_numbers))))
abbrev rm_X3_add : Room := { frames := 0, cells := 0, slots := 0, locals := 0 }
abbrev Qc_X3_add (K : vGl) (q_h q_h_numbers : Nat) (n_h : Nat)   (post : Int32 → Int32 → (Nat → Int32) → Prop) (A : Nat → Prop) : Array Value → State → Outcome → State → Prop := va_Qi (fun (r : Int32) (u : Int32 × (Nat → Int32)) => (r = 0 ∨ r = 1) ∧ post r u.1 u.2) (fun u t => vB K A [(q_h, .inr (2, [.ref q_h_numbers, .int u.1])), (q_h_numbers, .inl (K.2.2.1, n_h, .inl u.2))] t) A
set_option maxHeartbeats 4000000 in
set_option maxRecDepth 100000 in
theorem c_X3_add (l : Launch) (K : vGl) (q_h q_h_numbers : Nat) (n_h : Nat)  (sz : Nat) (a1 : Int32) (v_many : Int32) (v_numbers : Nat → Int32) (post : Int32 → Int32 → (Nat → Int32) → Prop) (hw : wp_X3_add n_h a1 v_many v_numbers post) : Met l yX3_add (.code yX3_add cX3_add 2 (some .boolean) :: vT) rm_X3_add (va_Pc [.ref q_h, .int a1] (vPre K [(q_h, .inr (2, [.ref q_h_numbers, .int v_many])), (q_h_numbers, .inl (K.2.2.1, n_h, .inl v_numbers))] sz)) (Qc_X3_add K q_h q_h_numbers n_h post (va_A [(q_h, .inr (2, [.ref q_h_numbers, .int v_many])), (q_h_numbers, .inl (K.2.2.1, n_h, .inl v_numbers))] sz)) 0 0 (va_A [(q_h, .inr (2, [.ref q_h_numbers, .int v_many])), (q_h_numbers, .inl (K.2.2.1, n_h, .inl v_numbers))] sz) := by
  unfold wp_X3_add at hw
  refine Met.ofW (cc := cX3_add) (maxL := 2) (ret := (some .boolean)) (by decide) rfl ?_
  intro p e s m args below meth c s₁ B hml hv
  obtain ⟨rfl, hsz, hP, hK, hD0, hG, hR⟩ := hv
  have hx := B.exec
  have hb := B.bytes
  have hr := B.returns
  have hts : ∀ w ∈ vT, w.before _ s = true := fun w h => atoms_spec (ws := .code yX3_add cX3_add 2 (some .boolean) :: vT) B.pre w (List.mem_cons_of_mem _ h)
  have hown : s.vm.findClass RX3 = some m.cls := findClass_of_methodNamed B.named
  have hlocks := B.notSynchronized
  subst hsz
  have hD := hD0.self (sz := s.heap.size)
  show W p l e (rm_X3_add) s m _ below meth c s.heap [] 0 0 _ _
  generalize hAe : va_A [(q_h, .inr (2, [.ref q_h_numbers, .int v_many])), (q_h_numbers, .inl (K.2.2.1, n_h, .inl v_numbers))] s.heap.size = A at hD hG ⊢
  have hX : vX K A s := ⟨hK, hG, hR, fun q h => by rw [← hAe]; exact Or.inr h⟩
  have hS : va_S A s.heap s.heap [] := va_S.rf
  have F : vFx p s m ([.ref q_h, .int a1] : List Value).toArray meth c cX3_add RX3 2 (some .boolean) := ⟨hx, hb, hml, hown, hts, hr, hlocks⟩
  have hl := lv_entry ([.ref q_h, .int a1]) (n := 2) (Nat.le_of_ble_eq_true rfl)
  rw [lg_entry_eq]
  generalize (lg_sl ([.ref q_h, .int a1]) ++ List.replicate (2 - (lg_sl ([.ref q_h, .int a1])).length) Slot.unset).toArray = ls at hl ⊢
  have hl : lv_has ls 2 [(0, .ref q_h), (1, .int a1)] := hl
  obtain ⟨H, hHe⟩ : ∃ H, H = s.heap := ⟨_, rfl⟩
  have hS : va_S A s.heap H [] := by rw [hHe]; exact hS
  have hP : va_P K.1 vwCl [(q_h, .inr (2, [.ref q_h_numbers, .int v_many])), (q_h_numbers, .inl (K.2.2.1, n_h, .inl v_numbers))] H := by rw [hHe]; exact hP
  refine vWH hHe ?_
  refine lv_aload_n hx hb dX3_add_0 rfl (lv_at hl 0 rfl) ?_
  refine va_get (D := K.1) (ci := 2) (v := .int v_many) (C := RX3) (T := TX3) (N := 2) hx hb hts iwX3 hown hX.1 hP 0 rfl rfl 1 (by decide) (hts _ k_106) (fun _ h9 => h9) rfl dX3_add_1 ?_
  refine lv_if_lt (tgt := 19) hx hb dX3_add_4 (by decide) (fun c_1 => ?_) (fun c_1 => ?_)
  · have hw := hw.1 c_1
    refine lv_iconst (v := (0 : Int32)) hx hb dX3_add_19 (by decide) ?_
    exact W.zret (v := (0 : Int32)) hx hb hr vZ0 (fun t ht hW => ⟨⟨(0 : Int32), (v_many, v_numbers), rfl, ⟨Or.inl rfl, hw⟩, by rw [ht]; exact hP, va_K.moved hW.alike hX.1, hD⟩, hS.F ht⟩) hS.2.2 dX3_add_20 hlocks
  · have hw := hw.2 c_1
    refine lv_aload_n hx hb dX3_add_7 rfl (lv_at hl 0 rfl) ?_
    refine va_get (D := K.1) (ci := 2) (v := .int v_many) (C := RX3) (T := TX3) (N := 2) hx hb hts iwX3 hown hX.1 hP 0 rfl rfl 1 (by decide) (hts _ k_106) (fun _ h9 => h9) rfl dX3_add_8 ?_
    refine lv_aload_n hx hb dX3_add_11 rfl (lv_at hl 0 rfl) ?_
    refine va_get (D := K.1) (ci := 2) (v := .ref q_h_numbers) (C := RX3) (T := TX3) (N := 2) hx hb hts iwX3 hown hX.1 hP 0 rfl rfl 0 (by decide) (hts _ k_102) (fun _ h9 => h9) rfl dX3_add_12 ?_
    refine va_alen (v := (Int32.ofNat n_h)) hx hb hX.1 hP 1 0 rfl rfl rfl dX3_add_15 ?_
    refine lv_icmp_lt (tgt := 21) hx hb dX3_add_16 (by decide) (fun c_2 => ?_) (fun c_2 => ?_)
    · have hw := hw.1 c_2
      refine lv_aload_n hx hb dX3_add_21 rfl (lv_at hl 0 rfl) ?_
      refine va_get (D := K.1) (ci := 2) (v := .ref q_h_numbers) (C := RX3) (T := TX3) (N := 2) hx hb hts iwX3 hown hX.1 hP 0 rfl rfl 0 (by decide) (hts _ k_102) (fun _ h9 => h9) rfl dX3_add_22 ?_
      refine lv_aload_n hx hb dX3_add_25 rfl (lv_at hl 0 rfl) ?_
      refine va_get (D := K.1) (ci := 2) (v := .int v_many) (C := RX3) (T := TX3) (N := 2) hx hb hts iwX3 hown hX.1 hP 0 rfl rfl 1 (by decide) (hts _ k_106) (fun _ h9 => h9) rfl dX3_add_26 ?_
      refine lv_iload_n hx hb dX3_add_29 rfl (lv_at hl 1 rfl) ?_
      refine va_iast hx hb hX.1 hP hD hS 1 0 rfl rfl hw.1 dX3_add_30 (fun H locs hP hD hS => ?_)
      have hP : va_P K.1 vwCl [(q_h, .inr (2, [.ref q_h_numbers, .int v_many])), (q_h_numbers, .inl (K.2.2.1, n_h, .inl (upd v_numbers v_many.toNatClampNeg a1)))] H := hP
      have hD : va_D A [(q_h, .inr (2, [.ref q_h_numbers, .int v_many])), (q_h_numbers, .inl (K.2.2.1, n_h, .inl (upd v_numbers v_many.toNatClampNeg a1)))] := hD
      have hw := hw.2
      refine lv_aload_n hx hb dX3_add_31 rfl (lv_at hl 0 rfl) ?_
      refine lv_dup hx hb dX3_add_32 rfl ?_
      refine va_get (D := K.1) (ci := 2) (v := .int v_many) (C := RX3) (T := TX3) (N := 2) hx hb hts iwX3 hown hX.1 hP 0 rfl rfl 1 (by decide) (hts _ k_106) (fun _ h9 => h9) rfl dX3_add_33 ?_
      refine lv_iconst (v := (1 : Int32)) hx hb dX3_add_36 (by decide) ?_
      refine lv_iadd hx hb dX3_add_37 ?_
      refine va_put (D := K.1) (ci := 2) (v := .int (v_many + (1 : Int32))) (ty := .int) (C := RX3) (T := TX3) (N := 2) hx hb hts iwX3 tyX3 tyX3_ok nmX3 hown hX.1 hP hD hS 0 rfl rfl 1 (by decide) (hts _ k_106) (fun _ h9 => h9) rfl (by decide +kernel) rfl rfl (Nat.le_of_ble_eq_true rfl) dX3_add_38 (fun H locs hP hD hS => ?_)
      have hP : va_P K.1 vwCl [(q_h, .inr (2, [.ref q_h_numbers, .int (v_many + (1 : Int32))])), (q_h_numbers, .inl (K.2.2.1, n_h, .inl (upd v_numbers v_many.toNatClampNeg a1)))] H := hP
      have hD : va_D A [(q_h, .inr (2, [.ref q_h_numbers, .int (v_many + (1 : Int32))])), (q_h_numbers, .inl (K.2.2.1, n_h, .inl (upd v_numbers v_many.toNatClampNeg a1)))] := hD
      refine lv_iconst (v := (1 : Int32)) hx hb dX3_add_41 (by decide) ?_
      exact W.zret (v := (1 : Int32)) hx hb hr vZ1 (fun t ht hW => ⟨⟨(1 : Int32), ((v_many + (1 : Int32)), (upd v_numbers v_many.toNatClampNeg a1)), rfl, ⟨Or.inr rfl, hw⟩, by rw [ht]; exact hP, va_K.moved hW.alike hX.1, hD⟩, hS.F ht⟩) hS.2.2 dX3_add_42 hlocks
    · have hw := hw.2 c_2
      refine lv_iconst (v := (0 : Int32)) hx hb dX3_add_19 (by decide) ?_
      exact W.zret (v := (0 : Int32)) hx hb hr vZ0 (fun t ht hW => ⟨⟨(0 : Int32), (v_many, v_numbers), rfl, ⟨Or.inl rfl, hw⟩, by rw [ht]; exact hP, va_K.moved hW.alike hX.1, hD⟩, hS.F ht⟩) hS.2.2 dX3_add_20 hlocks
/-! OvenRings$Reader.readNumber()V -/
def wp_X2_readNumber_b4 (v_bytes_many : Int32) (v_bytes_numbers : Nat → Int32)  (post : Int32 → Int32 → (Nat → Int32) → Prop) : Nat → Int32 → Int32 → Int32 → Int32 → (Nat → Int32) → Prop
  | 0, _, _, _, _, _ => False
  | n + 1, x1, x2, v_at, v_steps_many, v_steps_numbers => ((4 : Int32) ≤ x2 → (wp_X3_add 50 x1 v_steps_many v_steps_numbers (fun r_4 v_steps_many_2 v_steps_numbers_3 => post v_at v_steps_many_2 v_steps_numbers_3))) ∧ (¬ (4 : Int32) ≤ x2 → (wp_X2_next v_at v_bytes_many v_bytes_numbers (fun r_5 => (r_5 < (48 : Int32) → (wp_X3_add 50 x1 v_steps_many v_steps_numbers (fun r_9 v_steps_many_7 v_steps_numbers_8 => post v_at v_steps_many_7 v_steps_numbers_8))) ∧ (¬ r_5 < (48 : Int32) → (wp_X2_next v_at v_bytes_many v_bytes_numbers (fun r_10 => ((57 : Int32) < r_10 → (wp_X3_add 50 x1 v_steps_many v_steps_numbers (fun r_14 v_steps_many_12 v_steps_numbers_13 => post v_at v_steps_many_12 v_steps_numbers_13))) ∧ (¬ (57 : Int32) < r_10 → (wp_X2_next v_at v_bytes_many v_bytes_numbers (fun r_15 => wp_X2_readNumber_b4 v_bytes_many v_bytes_numbers post n (((x1 * (10 : Int32)) + r_15) - (48 : Int32)) (x2 + (1 : Int32)) (v_at + (1 : Int32)) v_steps_many v_steps_numbers)))))))))
theorem u_X2_readNumber_b4 {v_bytes_many : Int32} {v_bytes_numbers : Nat → Int32}  {post : Int32 → Int32 → (Nat → Int32) → Prop} {n : Nat} {x1 : Int32} {x2 : Int32} {v_at : Int32} {v_steps_many : Int32} {v_steps_numbers : Nat → Int32} (h : wp_X2_readNumber_b4 v_bytes_many v_bytes_numbers post (n + 1) x1 x2 v_at v_steps_many v_steps_numbers) : ((4 : Int32) ≤ x2 → (wp_X3_add 50 x1 v_steps_many v_steps_numbers (fun r_4 v_steps_many_2 v_steps_numbers_3 => post v_at v_steps_many_2 v_steps_numbers_3))) ∧ (¬ (4 : Int32) ≤ x2 → (wp_X2_next v_at v_bytes_many v_bytes_numbers (fun r_5 => (r_5 < (48 : Int32) → (wp_X3_add 50 x1 v_steps_many v_steps_numbers (fun r_9 v_steps_many_7 v_steps_numbers_8 => post v_at v_steps_many_7 v_steps_numbers_8))) ∧ (¬ r_5 < (48 : Int32) → (wp_X2_next v_at v_bytes_many v_bytes_numbers (fun r_10 => ((57 : Int32) < r_10 → (wp_X3_add 50 x1 v_steps_many v_steps_numbers (fun r_14 v_steps_many_12 v_steps_numbers_13 => post v_at v_steps_many_12 v_steps_numbers_13))) ∧ (¬ (57 : Int32) < r_10 → (wp_X2_next v_at v_bytes_many v_bytes_numbers (fun r_15 => wp_X2_readNumber_b4 v_bytes_many v_bytes_numbers post n (((x1 * (10 : Int32)) + r_15) - (48 : Int32)) (x2 + (1 : Int32)) (v_at + (1 : Int32)) v_steps_many v_steps_numbers))))))))) := h
def wp_X2_readNumber (v_at : Int32) (v_steps_many : Int32) (v_bytes_many : Int32) (v_steps_numbers : Nat → Int32) (v_bytes_numbers : Nat → Int32) (post : Int32 → Int32 → (Nat → Int32) → Prop) : Prop := ∃ k, wp_X2_readNumber_b4 v_bytes_many v_bytes_numbers post k (0 : Int32) (0 : Int32) v_at v_steps_many v_steps_numbers
abbrev rm_X2_readNumber : Room := { frames := 2, cells := 0, slots := 0, locals := 41 }
abbrev Qc_X2_readNumber (K : vGl) (q_h q_h_steps q_h_bytes q_h_steps_numbers q_h_bytes_numbers : Nat)  (g_h_names : Value) (v_bytes_many : Int32) (v_bytes_numbers : Nat → Int32) (post : Int32 → Int32 → (Nat → Int32) → Prop) (A : Nat → Prop) : Array Value → State → Outcome → State → Prop := va_Qv (fun (u : Int32 × Int32 × (Nat → Int32)) => post u.1 u.2.1 u.2.2) (fun u t => vB K A [(q_h, .inr (1, [.ref q_h_steps, .ref q_h_bytes, g_h_names, .int u.1])), (q_h_steps, .inr (2, [.ref q_h_steps_numbers, .int u.2.1])), (q_h_bytes, .inr (2, [.ref q_h_bytes_numbers, .int v_bytes_many])), (q_h_steps_numbers, .inl (K.2.2.1, 50, .inl u.2.2)), (q_h_bytes_numbers, .inl (K.2.2.1, 50, .inl v_bytes_numbers))] t) A
set_option maxHeartbeats 4000000 in
set_option maxRecDepth 100000 in
theorem t_X2_readNumber_b4 {p : Program} {l : Launch} {e : Env} {s : State} {m : MethodId} {args : Array Value} {below : List Frame} {meth : Method} {c : Code} {A : Nat → Prop} {K : vGl} {q_h q_h_steps q_h_bytes q_h_steps_numbers q_h_bytes_numbers : Nat} {g_h_names : Value} {v_bytes_many : Int32} {v_bytes_numbers : Nat → Int32} {post : Int32 → Int32 → (Nat → Int32) → Prop} (F : vFx p s m args meth c cX2_readNumber RX2 3 (none : Option Jvm.ClassFile.FieldType)) (hX : vX K A s) : ∀ (n : Nat) (x1 : Int32) (x2 : Int32) (v_at : Int32) (v_steps_many : Int32) (v_steps_numbers : Nat → Int32) (H : Heap) (locs : List Loc) (ls : Array Slot), wp_X2_readNumber_b4 v_bytes_many v_bytes_numbers post n x1 x2 v_at v_steps_many v_steps_numbers → va_P K.1 vwCl [(q_h, .inr (1, [.ref q_h_steps, .ref q_h_bytes, g_h_names, .int v_at])), (q_h_steps, .inr (2, [.ref q_h_steps_numbers, .int v_steps_many])), (q_h_bytes, .inr (2, [.ref q_h_bytes_numbers, .int v_bytes_many])), (q_h_steps_numbers, .inl (K.2.2.1, 50, .inl v_steps_numbers)), (q_h_bytes_numbers, .inl (K.2.2.1, 50, .inl v_bytes_numbers))] H → va_D A [(q_h, .inr (1, [.ref q_h_steps, .ref q_h_bytes, g_h_names, .int v_at])), (q_h_steps, .inr (2, [.ref q_h_steps_numbers, .int v_steps_many])), (q_h_bytes, .inr (2, [.ref q_h_bytes_numbers, .int v_bytes_many])), (q_h_steps_numbers, .inl (K.2.2.1, 50, .inl v_steps_numbers)), (q_h_bytes_numbers, .inl (K.2.2.1, 50, .inl v_bytes_numbers))] → va_S A s.heap H locs → lv_has ls 3 [(0, .ref q_h), (1, .int x1), (2, .int x2)] → W p l e rm_X2_readNumber s m args below meth c H locs 0 0 (MQ below (Qc_X2_readNumber K q_h q_h_steps q_h_bytes q_h_steps_numbers q_h_bytes_numbers g_h_names v_bytes_many v_bytes_numbers post A) args s 0 0 A) (F0 m 4 ls []) := by
  obtain ⟨hx, hb, hml, hown, hts, hr, hlocks⟩ := id F
  intro n
  induction n with
  | zero =>
    intro x1 x2 v_at v_steps_many v_steps_numbers H locs ls hw
    exact hw.elim
  | succ n ih =>
    intro x1 x2 v_at v_steps_many v_steps_numbers H locs ls hw hP hD hS hl
    have hw := u_X2_readNumber_b4 hw
    refine lv_iload_n hx hb dX2_readNumber_4 rfl (lv_at hl 2 rfl) ?_
    refine lv_iconst (v := (4 : Int32)) hx hb dX2_readNumber_5 (by decide) ?_
    refine lv_icmp_ge (tgt := 56) hx hb dX2_readNumber_6 (by decide) (fun c_1 => ?_) (fun c_1 => ?_)
    · have hw := hw.1 c_1
      refine lv_aload_n hx hb dX2_readNumber_56 rfl (lv_at hl 0 rfl) ?_
      refine va_get (D := K.1) (ci := 1) (v := .ref q_h_steps) (C := RX2) (T := TX2) (N := 4) hx hb hts iwX2 hown hX.1 hP 0 rfl rfl 0 (by decide) (hts _ k_209) (fun _ h9 => h9) rfl dX2_readNumber_57 ?_
      refine lv_iload_n hx hb dX2_readNumber_60 rfl (lv_at hl 1 rfl) ?_
      refine vCalli (K := K) (wr := [(q_h, .inr (1, [.ref q_h_steps, .ref q_h_bytes, g_h_names, .int v_at])), (q_h_bytes, .inr (2, [.ref q_h_bytes_numbers, .int v_bytes_many])), (q_h_bytes_numbers, .inl (K.2.2.1, 50, .inl v_bytes_numbers))]) (w1 := (fun (u : Int32 × (Nat → Int32)) => [(q_h_steps, .inr (2, [.ref q_h_steps_numbers, .int u.1])), (q_h_steps_numbers, .inl (K.2.2.1, 50, .inl u.2))])) (va_runV (As := [.int x1]) (rest := []) ⟨hx, hb, hml, hown, hts⟩ (c_X3_add l K q_h_steps q_h_steps_numbers 50 H.size x1 v_steps_many v_steps_numbers _ hw) (cwV 1 hts (vGoodV k_465 k_421 k_422 k_60 k_423) rfl rfl rfl (by decide +kernel) ⟨Nat.le_of_ble_eq_true rfl, Nat.le_of_ble_eq_true rfl⟩) ⟨vPre_blind, va_recv hX.1 hP (ci := 2) (q0 := 1) rfl rfl, fun U hU hW => ⟨rfl, vPre_of hX hP hD hS [1, 3] rfl (by decide) U hU hW⟩⟩ rfl rfl hl.1 rfl (lv_room (Nat.le_of_ble_eq_true rfl)) dX2_readNumber_61 ⟨Nat.zero_le _, Nat.zero_le _⟩) hX hP hD hS [1, 3] [0, 2, 4] rfl rfl (by decide) (by decide) (fun r_4 u H locs hw hP hD hS => ?_)
      obtain ⟨v_steps_many_2, v_steps_numbers_3⟩ := u
      have hP : va_P K.1 vwCl [(q_h, .inr (1, [.ref q_h_steps, .ref q_h_bytes, g_h_names, .int v_at])), (q_h_steps, .inr (2, [.ref q_h_steps_numbers, .int v_steps_many_2])), (q_h_bytes, .inr (2, [.ref q_h_bytes_numbers, .int v_bytes_many])), (q_h_steps_numbers, .inl (K.2.2.1, 50, .inl v_steps_numbers_3)), (q_h_bytes_numbers, .inl (K.2.2.1, 50, .inl v_bytes_numbers))] H := hP.sub [0, 3, 1, 4, 2] rfl
      have hD : va_D A [(q_h, .inr (1, [.ref q_h_steps, .ref q_h_bytes, g_h_names, .int v_at])), (q_h_steps, .inr (2, [.ref q_h_steps_numbers, .int v_steps_many_2])), (q_h_bytes, .inr (2, [.ref q_h_bytes_numbers, .int v_bytes_many])), (q_h_steps_numbers, .inl (K.2.2.1, 50, .inl v_steps_numbers_3)), (q_h_bytes_numbers, .inl (K.2.2.1, 50, .inl v_bytes_numbers))] := hD.sub [0, 3, 1, 4, 2] (by decide) rfl
      have hz_r_4 := hw.1
      have hw := hw.2
      refine lv_pop hx hb dX2_readNumber_64 rfl ?_
      exact W.vret hx hb hr (fun t ht hW => ⟨⟨(v_at, v_steps_many_2, v_steps_numbers_3), rfl, hw, by rw [ht]; exact hP, va_K.moved hW.alike hX.1, hD⟩, hS.F ht⟩) hS.2.2 dX2_readNumber_65 hlocks
    · have hw := hw.2 c_1
      refine lv_aload_n hx hb dX2_readNumber_9 rfl (lv_at hl 0 rfl) ?_
      refine vCalli (K := K) (wr := [(q_h_steps, .inr (2, [.ref q_h_steps_numbers, .int v_steps_many])), (q_h_steps_numbers, .inl (K.2.2.1, 50, .inl v_steps_numbers))]) (w1 := (fun _ => [(q_h, .inr (1, [(.ref q_h_steps), .ref q_h_bytes, g_h_names, .int v_at])), (q_h_bytes, .inr (2, [.ref q_h_bytes_numbers, .int v_bytes_many])), (q_h_bytes_numbers, .inl (K.2.2.1, 50, .inl v_bytes_numbers))])) (va_runV (As := []) (rest := []) ⟨hx, hb, hml, hown, hts⟩ (c_X2_next l K q_h q_h_bytes q_h_bytes_numbers (.ref q_h_steps) g_h_names H.size v_at v_bytes_many v_bytes_numbers _ hw) (cwV 0 hts (vGoodV k_453 k_455 k_4 k_62 k_456) rfl rfl rfl (by decide +kernel) ⟨Nat.le_of_ble_eq_true rfl, Nat.le_of_ble_eq_true rfl⟩) ⟨vPre_blind, va_recv hX.1 hP (ci := 1) (q0 := 0) rfl rfl, fun U hU hW => ⟨rfl, vPre_of hX hP hD hS [0, 2, 4] rfl (by decide) U hU hW⟩⟩ rfl rfl hl.1 rfl (lv_room (Nat.le_of_ble_eq_true rfl)) dX2_readNumber_10 ⟨Nat.zero_le _, Nat.zero_le _⟩) hX hP hD hS [0, 2, 4] [1, 3] rfl rfl (by decide) (by decide) (fun r_5 u H locs hw hP hD hS => ?_)
      have hP : va_P K.1 vwCl [(q_h, .inr (1, [.ref q_h_steps, .ref q_h_bytes, g_h_names, .int v_at])), (q_h_steps, .inr (2, [.ref q_h_steps_numbers, .int v_steps_many])), (q_h_bytes, .inr (2, [.ref q_h_bytes_numbers, .int v_bytes_many])), (q_h_steps_numbers, .inl (K.2.2.1, 50, .inl v_steps_numbers)), (q_h_bytes_numbers, .inl (K.2.2.1, 50, .inl v_bytes_numbers))] H := hP.sub [2, 0, 3, 1, 4] rfl
      have hD : va_D A [(q_h, .inr (1, [.ref q_h_steps, .ref q_h_bytes, g_h_names, .int v_at])), (q_h_steps, .inr (2, [.ref q_h_steps_numbers, .int v_steps_many])), (q_h_bytes, .inr (2, [.ref q_h_bytes_numbers, .int v_bytes_many])), (q_h_steps_numbers, .inl (K.2.2.1, 50, .inl v_steps_numbers)), (q_h_bytes_numbers, .inl (K.2.2.1, 50, .inl v_bytes_numbers))] := hD.sub [2, 0, 3, 1, 4] (by decide) rfl
      refine lv_bipush (v := (48 : Int32)) hx hb dX2_readNumber_13 (by decide) ?_
      refine lv_icmp_lt (tgt := 56) hx hb dX2_readNumber_15 (by decide) (fun c_6 => ?_) (fun c_6 => ?_)
      · have hw := hw.1 c_6
        refine lv_aload_n hx hb dX2_readNumber_56 rfl (lv_at hl 0 rfl) ?_
        refine va_get (D := K.1) (ci := 1) (v := .ref q_h_steps) (C := RX2) (T := TX2) (N := 4) hx hb hts iwX2 hown hX.1 hP 0 rfl rfl 0 (by decide) (hts _ k_209) (fun _ h9 => h9) rfl dX2_readNumber_57 ?_
        refine lv_iload_n hx hb dX2_readNumber_60 rfl (lv_at hl 1 rfl) ?_
        refine vCalli (K := K) (wr := [(q_h, .inr (1, [.ref q_h_steps, .ref q_h_bytes, g_h_names, .int v_at])), (q_h_bytes, .inr (2, [.ref q_h_bytes_numbers, .int v_bytes_many])), (q_h_bytes_numbers, .inl (K.2.2.1, 50, .inl v_bytes_numbers))]) (w1 := (fun (u : Int32 × (Nat → Int32)) => [(q_h_steps, .inr (2, [.ref q_h_steps_numbers, .int u.1])), (q_h_steps_numbers, .inl (K.2.2.1, 50, .inl u.2))])) (va_runV (As := [.int x1]) (rest := []) ⟨hx, hb, hml, hown, hts⟩ (c_X3_add l K q_h_steps q_h_steps_numbers 50 H.size x1 v_steps_many v_steps_numbers _ hw) (cwV 1 hts (vGoodV k_465 k_421 k_422 k_60 k_423) rfl rfl rfl (by decide +kernel) ⟨Nat.le_of_ble_eq_true rfl, Nat.le_of_ble_eq_true rfl⟩) ⟨vPre_blind, va_recv hX.1 hP (ci := 2) (q0 := 1) rfl rfl, fun U hU hW => ⟨rfl, vPre_of hX hP hD hS [1, 3] rfl (by decide) U hU hW⟩⟩ rfl rfl hl.1 rfl (lv_room (Nat.le_of_ble_eq_true rfl)) dX2_readNumber_61 ⟨Nat.zero_le _, Nat.zero_le _⟩) hX hP hD hS [1, 3] [0, 2, 4] rfl rfl (by decide) (by decide) (fun r_9 u H locs hw hP hD hS => ?_)
        obtain ⟨v_steps_many_7, v_steps_numbers_8⟩ := u
        have hP : va_P K.1 vwCl [(q_h, .inr (1, [.ref q_h_steps, .ref q_h_bytes, g_h_names, .int v_at])), (q_h_steps, .inr (2, [.ref q_h_steps_numbers, .int v_steps_many_7])), (q_h_bytes, .inr (2, [.ref q_h_bytes_numbers, .int v_bytes_many])), (q_h_steps_numbers, .inl (K.2.2.1, 50, .inl v_steps_numbers_8)), (q_h_bytes_numbers, .inl (K.2.2.1, 50, .inl v_bytes_numbers))] H := hP.sub [0, 3, 1, 4, 2] rfl
        have hD : va_D A [(q_h, .inr (1, [.ref q_h_steps, .ref q_h_bytes, g_h_names, .int v_at])), (q_h_steps, .inr (2, [.ref q_h_steps_numbers, .int v_steps_many_7])), (q_h_bytes, .inr (2, [.ref q_h_bytes_numbers, .int v_bytes_many])), (q_h_steps_numbers, .inl (K.2.2.1, 50, .inl v_steps_numbers_8)), (q_h_bytes_numbers, .inl (K.2.2.1, 50, .inl v_bytes_numbers))] := hD.sub [0, 3, 1, 4, 2] (by decide) rfl
        have hz_r_9 := hw.1
        have hw := hw.2
        refine lv_pop hx hb dX2_readNumber_64 rfl ?_
        exact W.vret hx hb hr (fun t ht hW => ⟨⟨(v_at, v_steps_many_7, v_steps_numbers_8), rfl, hw, by rw [ht]; exact hP, va_K.moved hW.alike hX.1, hD⟩, hS.F ht⟩) hS.2.2 dX2_readNumber_65 hlocks
      · have hw := hw.2 c_6
        refine lv_aload_n hx hb dX2_readNumber_18 rfl (lv_at hl 0 rfl) ?_
        refine vCalli (K := K) (wr := [(q_h_steps, .inr (2, [.ref q_h_steps_numbers, .int v_steps_many])), (q_h_steps_numbers, .inl (K.2.2.1, 50, .inl v_steps_numbers))]) (w1 := (fun _ => [(q_h, .inr (1, [(.ref q_h_steps), .ref q_h_bytes, g_h_names, .int v_at])), (q_h_bytes, .inr (2, [.ref q_h_bytes_numbers, .int v_bytes_many])), (q_h_bytes_numbers, .inl (K.2.2.1, 50, .inl v_bytes_numbers))])) (va_runV (As := []) (rest := []) ⟨hx, hb, hml, hown, hts⟩ (c_X2_next l K q_h q_h_bytes q_h_bytes_numbers (.ref q_h_steps) g_h_names H.size v_at v_bytes_many v_bytes_numbers _ hw) (cwV 0 hts (vGoodV k_453 k_455 k_4 k_62 k_456) rfl rfl rfl (by decide +kernel) ⟨Nat.le_of_ble_eq_true rfl, Nat.le_of_ble_eq_true rfl⟩) ⟨vPre_blind, va_recv hX.1 hP (ci := 1) (q0 := 0) rfl rfl, fun U hU hW => ⟨rfl, vPre_of hX hP hD hS [0, 2, 4] rfl (by decide) U hU hW⟩⟩ rfl rfl hl.1 rfl (lv_room (Nat.le_of_ble_eq_true rfl)) dX2_readNumber_19 ⟨Nat.zero_le _, Nat.zero_le _⟩) hX hP hD hS [0, 2, 4] [1, 3] rfl rfl (by decide) (by decide) (fun r_10 u H locs hw hP hD hS => ?_)
        have hP : va_P K.1 vwCl [(q_h, .inr (1, [.ref q_h_steps, .ref q_h_bytes, g_h_names, .int v_at])), (q_h_steps, .inr (2, [.ref q_h_steps_numbers, .int v_steps_many])), (q_h_bytes, .inr (2, [.ref q_h_bytes_numbers, .int v_bytes_many])), (q_h_steps_numbers, .inl (K.2.2.1, 50, .inl v_steps_numbers)), (q_h_bytes_numbers, .inl (K.2.2.1, 50, .inl v_bytes_numbers))] H := hP.sub [2, 0, 3, 1, 4] rfl
        have hD : va_D A [(q_h, .inr (1, [.ref q_h_steps, .ref q_h_bytes, g_h_names, .int v_at])), (q_h_steps, .inr (2, [.ref q_h_steps_numbers, .int v_steps_many])), (q_h_bytes, .inr (2, [.ref q_h_bytes_numbers, .int v_bytes_many])), (q_h_steps_numbers, .inl (K.2.2.1, 50, .inl v_steps_numbers)), (q_h_bytes_numbers, .inl (K.2.2.1, 50, .inl v_bytes_numbers))] := hD.sub [2, 0, 3, 1, 4] (by decide) rfl
        refine lv_bipush (v := (57 : Int32)) hx hb dX2_readNumber_22 (by decide) ?_
        refine lv_icmp_gt (tgt := 56) hx hb dX2_readNumber_24 (by decide) (fun c_11 => ?_) (fun c_11 => ?_)
        · have hw := hw.1 c_11
          refine lv_aload_n hx hb dX2_readNumber_56 rfl (lv_at hl 0 rfl) ?_
          refine va_get (D := K.1) (ci := 1) (v := .ref q_h_steps) (C := RX2) (T := TX2) (N := 4) hx hb hts iwX2 hown hX.1 hP 0 rfl rfl 0 (by decide) (hts _ k_209) (fun _ h9 => h9) rfl dX2_readNumber_57 ?_
          refine lv_iload_n hx hb dX2_readNumber_60 rfl (lv_at hl 1 rfl) ?_
          refine vCalli (K := K) (wr := [(q_h, .inr (1, [.ref q_h_steps, .ref q_h_bytes, g_h_names, .int v_at])), (q_h_bytes, .inr (2, [.ref q_h_bytes_numbers, .int v_bytes_many])), (q_h_bytes_numbers, .inl (K.2.2.1, 50, .inl v_bytes_numbers))]) (w1 := (fun (u : Int32 × (Nat → Int32)) => [(q_h_steps, .inr (2, [.ref q_h_steps_numbers, .int u.1])), (q_h_steps_numbers, .inl (K.2.2.1, 50, .inl u.2))])) (va_runV (As := [.int x1]) (rest := []) ⟨hx, hb, hml, hown, hts⟩ (c_X3_add l K q_h_steps q_h_steps_numbers 50 H.size x1 v_steps_many v_steps_numbers _ hw) (cwV 1 hts (vGoodV k_465 k_421 k_422 k_60 k_423) rfl rfl rfl (by decide +kernel) ⟨Nat.le_of_ble_eq_true rfl, Nat.le_of_ble_eq_true rfl⟩) ⟨vPre_blind, va_recv hX.1 hP (ci := 2) (q0 := 1) rfl rfl, fun U hU hW => ⟨rfl, vPre_of hX hP hD hS [1, 3] rfl (by decide) U hU hW⟩⟩ rfl rfl hl.1 rfl (lv_room (Nat.le_of_ble_eq_true rfl)) dX2_readNumber_61 ⟨Nat.zero_le _, Nat.zero_le _⟩) hX hP hD hS [1, 3] [0, 2, 4] rfl rfl (by decide) (by decide) (fun r_14 u H locs hw hP hD hS => ?_)
          obtain ⟨v_steps_many_12, v_steps_numbers_13⟩ := u
          have hP : va_P K.1 vwCl [(q_h, .inr (1, [.ref q_h_steps, .ref q_h_bytes, g_h_names, .int v_at])), (q_h_steps, .inr (2, [.ref q_h_steps_numbers, .int v_steps_many_12])), (q_h_bytes, .inr (2, [.ref q_h_bytes_numbers, .int v_bytes_many])), (q_h_steps_numbers, .inl (K.2.2.1, 50, .inl v_steps_numbers_13)), (q_h_bytes_numbers, .inl (K.2.2.1, 50, .inl v_bytes_numbers))] H := hP.sub [0, 3, 1, 4, 2] rfl
          have hD : va_D A [(q_h, .inr (1, [.ref q_h_steps, .ref q_h_bytes, g_h_names, .int v_at])), (q_h_steps, .inr (2, [.ref q_h_steps_numbers, .int v_steps_many_12])), (q_h_bytes, .inr (2, [.ref q_h_bytes_numbers, .int v_bytes_many])), (q_h_steps_numbers, .inl (K.2.2.1, 50, .inl v_steps_numbers_13)), (q_h_bytes_numbers, .inl (K.2.2.1, 50, .inl v_bytes_numbers))] := hD.sub [0, 3, 1, 4, 2] (by decide) rfl
          have hz_r_14 := hw.1
          have hw := hw.2
          refine lv_pop hx hb dX2_readNumber_64 rfl ?_
          exact W.vret hx hb hr (fun t ht hW => ⟨⟨(v_at, v_steps_many_12, v_steps_numbers_13), rfl, hw, by rw [ht]; exact hP, va_K.moved hW.alike hX.1, hD⟩, hS.F ht⟩) hS.2.2 dX2_readNumber_65 hlocks
        · have hw := hw.2 c_11
          refine lv_iload_n hx hb dX2_readNumber_27 rfl (lv_at hl 1 rfl) ?_
          refine lv_bipush (v := (10 : Int32)) hx hb dX2_readNumber_28 (by decide) ?_
          refine lv_imul hx hb dX2_readNumber_30 ?_
          refine lv_aload_n hx hb dX2_readNumber_31 rfl (lv_at hl 0 rfl) ?_
          refine vCalli (K := K) (wr := [(q_h_steps, .inr (2, [.ref q_h_steps_numbers, .int v_steps_many])), (q_h_steps_numbers, .inl (K.2.2.1, 50, .inl v_steps_numbers))]) (w1 := (fun _ => [(q_h, .inr (1, [(.ref q_h_steps), .ref q_h_bytes, g_h_names, .int v_at])), (q_h_bytes, .inr (2, [.ref q_h_bytes_numbers, .int v_bytes_many])), (q_h_bytes_numbers, .inl (K.2.2.1, 50, .inl v_bytes_numbers))])) (va_runV (As := []) (rest := [.int (x1 * (10 : Int32))]) ⟨hx, hb, hml, hown, hts⟩ (c_X2_next l K q_h q_h_bytes q_h_bytes_numbers (.ref q_h_steps) g_h_names H.size v_at v_bytes_many v_bytes_numbers _ hw) (cwV 0 hts (vGoodV k_453 k_455 k_4 k_62 k_456) rfl rfl rfl (by decide +kernel) ⟨Nat.le_of_ble_eq_true rfl, Nat.le_of_ble_eq_true rfl⟩) ⟨vPre_blind, va_recv hX.1 hP (ci := 1) (q0 := 0) rfl rfl, fun U hU hW => ⟨rfl, vPre_of hX hP hD hS [0, 2, 4] rfl (by decide) U hU hW⟩⟩ rfl rfl hl.1 rfl (lv_room (Nat.le_of_ble_eq_true rfl)) dX2_readNumber_32 ⟨Nat.zero_le _, Nat.zero_le _⟩) hX hP hD hS [0, 2, 4] [1, 3] rfl rfl (by decide) (by decide) (fun r_15 u H locs hw hP hD hS => ?_)
          have hP : va_P K.1 vwCl [(q_h, .inr (1, [.ref q_h_steps, .ref q_h_bytes, g_h_names, .int v_at])), (q_h_steps, .inr (2, [.ref q_h_steps_numbers, .int v_steps_many])), (q_h_bytes, .inr (2, [.ref q_h_bytes_numbers, .int v_bytes_many])), (q_h_steps_numbers, .inl (K.2.2.1, 50, .inl v_steps_numbers)), (q_h_bytes_numbers, .inl (K.2.2.1, 50, .inl v_bytes_numbers))] H := hP.sub [2, 0, 3, 1, 4] rfl
          have hD : va_D A [(q_h, .inr (1, [.ref q_h_steps, .ref q_h_bytes, g_h_names, .int v_at])), (q_h_steps, .inr (2, [.ref q_h_steps_numbers, .int v_steps_many])), (q_h_bytes, .inr (2, [.ref q_h_bytes_numbers, .int v_bytes_many])), (q_h_steps_numbers, .inl (K.2.2.1, 50, .inl v_steps_numbers)), (q_h_bytes_numbers, .inl (K.2.2.1, 50, .inl v_bytes_numbers))] := hD.sub [2, 0, 3, 1, 4] (by decide) rfl
          refine lv_iadd hx hb dX2_readNumber_35 ?_
          refine lv_bipush (v := (48 : Int32)) hx hb dX2_readNumber_36 (by decide) ?_
          refine lv_isub hx hb dX2_readNumber_38 ?_
          refine lv_istore_n (lv' := [(1, .int (((x1 * (10 : Int32)) + r_15) - (48 : Int32))), (0, .ref q_h), (2, .int x2)]) hx hb dX2_readNumber_39 rfl hl (by decide) rfl (fun ls hl => ?_)
          refine lv_aload_n hx hb dX2_readNumber_40 rfl (lv_at hl 1 rfl) ?_
          refine lv_dup hx hb dX2_readNumber_41 rfl ?_
          refine va_get (D := K.1) (ci := 1) (v := .int v_at) (C := RX2) (T := TX2) (N := 4) hx hb hts iwX2 hown hX.1 hP 0 rfl rfl 3 (by decide) (hts _ k_213) (fun _ h9 => h9) rfl dX2_readNumber_42 ?_
          refine lv_iconst (v := (1 : Int32)) hx hb dX2_readNumber_45 (by decide) ?_
          refine lv_iadd hx hb dX2_readNumber_46 ?_
          refine va_put (D := K.1) (ci := 1) (v := .int (v_at + (1 : Int32))) (ty := .int) (C := RX2) (T := TX2) (N := 4) hx hb hts iwX2 tyX2 tyX2_ok nmX2 hown hX.1 hP hD hS 0 rfl rfl 3 (by decide) (hts _ k_213) (fun _ h9 => h9) rfl (by decide +kernel) rfl rfl (Nat.le_of_ble_eq_true rfl) dX2_readNumber_47 (fun H locs hP hD hS => ?_)
          have hP : va_P K.1 vwCl [(q_h, .inr (1, [.ref q_h_steps, .ref q_h_bytes, g_h_names, .int (v_at + (1 : Int32))])), (q_h_steps, .inr (2, [.ref q_h_steps_numbers, .int v_steps_many])), (q_h_bytes, .inr (2, [.ref q_h_bytes_numbers, .int v_bytes_many])), (q_h_steps_numbers, .inl (K.2.2.1, 50, .inl v_steps_numbers)), (q_h_bytes_numbers, .inl (K.2.2.1, 50, .inl v_bytes_numbers))] H := hP
          have hD : va_D A [(q_h, .inr (1, [.ref q_h_steps, .ref q_h_bytes, g_h_names, .int (v_at + (1 : Int32))])), (q_h_steps, .inr (2, [.ref q_h_steps_numbers, .int v_steps_many])), (q_h_bytes, .inr (2, [.ref q_h_bytes_numbers, .int v_bytes_many])), (q_h_steps_numbers, .inl (K.2.2.1, 50, .inl v_steps_numbers)), (q_h_bytes_numbers, .inl (K.2.2.1, 50, .inl v_bytes_numbers))] := hD
          refine lv_iinc (v := (x2 + (1 : Int32))) (lv' := [(2, .int (x2 + (1 : Int32))), (1, .int (((x1 * (10 : Int32)) + r_15) - (48 : Int32))), (0, .ref q_h)]) hx hb dX2_readNumber_50 hl (k := 2) rfl rfl (by decide) rfl (fun ls hl => ?_)
          refine lv_goto (tgt := 4) hx hb dX2_readNumber_53 (by decide) ?_
          exact ih _ _ _ _ _ _ _ _ hw hP hD hS (lv_sub hl [2, 1, 0] rfl)
set_option maxHeartbeats 4000000 in
set_option maxRecDepth 100000 in
theorem c_X2_readNumber (l : Launch) (K : vGl) (q_h q_h_steps q_h_bytes q_h_steps_numbers q_h_bytes_numbers : Nat)  (g_h_names : Value) (sz : Nat) (v_at : Int32) (v_steps_many : Int32) (v_bytes_many : Int32) (v_steps_numbers : Nat → Int32) (v_bytes_numbers : Nat → Int32) (post : Int32 → Int32 → (Nat → Int32) → Prop) (hw : wp_X2_readNumber v_at v_steps_many v_bytes_many v_steps_numbers v_bytes_numbers post) : Met l yX2_readNumber (.code yX2_readNumber cX2_readNumber 3 (none : Option Jvm.ClassFile.FieldType) :: vT) rm_X2_readNumber (va_Pc [.ref q_h] (vPre K [(q_h, .inr (1, [.ref q_h_steps, .ref q_h_bytes, g_h_names, .int v_at])), (q_h_steps, .inr (2, [.ref q_h_steps_numbers, .int v_steps_many])), (q_h_bytes, .inr (2, [.ref q_h_bytes_numbers, .int v_bytes_many])), (q_h_steps_numbers, .inl (K.2.2.1, 50, .inl v_steps_numbers)), (q_h_bytes_numbers, .inl (K.2.2.1, 50, .inl v_bytes_numbers))] sz)) (Qc_X2_readNumber K q_h q_h_steps q_h_bytes q_h_steps_numbers q_h_bytes_numbers g_h_names v_bytes_many v_bytes_numbers post (va_A [(q_h, .inr (1, [.ref q_h_steps, .ref q_h_bytes, g_h_names, .int v_at])), (q_h_steps, .inr (2, [.ref q_h_steps_numbers, .int v_steps_many])), (q_h_bytes, .inr (2, [.ref q_h_bytes_numbers, .int v_bytes_many])), (q_h_steps_numbers, .inl (K.2.2.1, 50, .inl v_steps_numbers)), (q_h_bytes_numbers, .inl (K.2.2.1, 50, .inl v_bytes_numbers))] sz)) 0 0 (va_A [(q_h, .inr (1, [.ref q_h_steps, .ref q_h_bytes, g_h_names, .int v_at])), (q_h_steps, .inr (2, [.ref q_h_steps_numbers, .int v_steps_many])), (q_h_bytes, .inr (2, [.ref q_h_bytes_numbers, .int v_bytes_many])), (q_h_steps_numbers, .inl (K.2.2.1, 50, .inl v_steps_numbers)), (q_h_bytes_numbers, .inl (K.2.2.1, 50, .inl v_bytes_numbers))] sz) := by
  unfold wp_X2_readNumber at hw
  refine Met.ofW (cc := cX2_readNumber) (maxL := 3) (ret := (none : Option Jvm.ClassFile.FieldType)) (by decide) rfl ?_
  intro p e s m args below meth c s₁ B hml hv
  obtain ⟨rfl, hsz, hP, hK, hD0, hG, hR⟩ := hv
  have hx := B.exec
  have hb := B.bytes
  have hr := B.returns
  have hts : ∀ w ∈ vT, w.before _ s = true := fun w h => atoms_spec (ws := .code yX2_readNumber cX2_readNumber 3 (none : Option Jvm.ClassFile.FieldType) :: vT) B.pre w (List.mem_cons_of_mem _ h)
  have hown : s.vm.findClass RX2 = some m.cls := findClass_of_methodNamed B.named
  have hlocks := B.notSynchronized
  subst hsz
  have hD := hD0.self (sz := s.heap.size)
  show W p l e (rm_X2_readNumber) s m _ below meth c s.heap [] 0 0 _ _
  generalize hAe : va_A [(q_h, .inr (1, [.ref q_h_steps, .ref q_h_bytes, g_h_names, .int v_at])), (q_h_steps, .inr (2, [.ref q_h_steps_numbers, .int v_steps_many])), (q_h_bytes, .inr (2, [.ref q_h_bytes_numbers, .int v_bytes_many])), (q_h_steps_numbers, .inl (K.2.2.1, 50, .inl v_steps_numbers)), (q_h_bytes_numbers, .inl (K.2.2.1, 50, .inl v_bytes_numbers))] s.heap.size = A at hD hG ⊢
  have hX : vX K A s := ⟨hK, hG, hR, fun q h => by rw [← hAe]; exact Or.inr h⟩
  have hS : va_S A s.heap s.heap [] := va_S.rf
  have F : vFx p s m ([.ref q_h] : List Value).toArray meth c cX2_readNumber RX2 3 (none : Option Jvm.ClassFile.FieldType) := ⟨hx, hb, hml, hown, hts, hr, hlocks⟩
  have hl := lv_entry ([.ref q_h]) (n := 3) (Nat.le_of_ble_eq_true rfl)
  rw [lg_entry_eq]
  generalize (lg_sl ([.ref q_h]) ++ List.replicate (3 - (lg_sl ([.ref q_h])).length) Slot.unset).toArray = ls at hl ⊢
  have hl : lv_has ls 3 [(0, .ref q_h)] := hl
  obtain ⟨H, hHe⟩ : ∃ H, H = s.heap := ⟨_, rfl⟩
  have hS : va_S A s.heap H [] := by rw [hHe]; exact hS
  have hP : va_P K.1 vwCl [(q_h, .inr (1, [.ref q_h_steps, .ref q_h_bytes, g_h_names, .int v_at])), (q_h_steps, .inr (2, [.ref q_h_steps_numbers, .int v_steps_many])), (q_h_bytes, .inr (2, [.ref q_h_bytes_numbers, .int v_bytes_many])), (q_h_steps_numbers, .inl (K.2.2.1, 50, .inl v_steps_numbers)), (q_h_bytes_numbers, .inl (K.2.2.1, 50, .inl v_bytes_numbers))] H := by rw [hHe]; exact hP
  refine vWH hHe ?_
  refine lv_iconst (v := (0 : Int32)) hx hb dX2_readNumber_0 (by decide) ?_
  refine lv_istore_n (lv' := [(1, .int (0 : Int32)), (0, .ref q_h)]) hx hb dX2_readNumber_1 rfl hl (by decide) rfl (fun ls hl => ?_)
  refine lv_iconst (v := (0 : Int32)) hx hb dX2_readNumber_2 (by decide) ?_
  refine lv_istore_n (lv' := [(2, .int (0 : Int32)), (1, .int (0 : Int32)), (0, .ref q_h)]) hx hb dX2_readNumber_3 rfl hl (by decide) rfl (fun ls hl => ?_)
  obtain ⟨k, hw⟩ := hw
  exact t_X2_readNumber_b4 F hX k _ _ _ _ _ _ _ _ hw hP hD hS (lv_sub hl [2, 1, 0] rfl)
/-! java/lang/String.coder()B -/
def wp_J0_coder_7d493 (i0 : Nat) (post : Int32 → Prop) : Prop := ((1 : Int32) = 0 → (post (1 : Int32))) ∧ (¬ (1 : Int32) = 0 → (post (0 : Int32)))
abbrev rm_J0_coder_7d493 : Room := { frames := 0, cells := 0, slots := 0, locals := 0 }
abbrev Qc_J0_coder_7d493 (K : vGl)     (post : Int32 → Prop) (A : Nat → Prop) : Array Value → State → Outcome → State → Prop := va_Qi (fun (r : Int32) (u : Unit) => narrow .byte (.int r) = .int r ∧ post r ) (fun u t => vB K A [] t) A
set_option maxHeartbeats 4000000 in
set_option maxRecDepth 100000 in
theorem c_J0_coder_7d493 (l : Launch) (K : vGl)    (sz : Nat)  (post : Int32 → Prop) (i0 : Nat) (hi0 : i0 < 3) (hw : wp_J0_coder_7d493 i0 post) : Met l yJ0_coder_7d493 (.code yJ0_coder_7d493 cJ0_coder_7d493 1 (some .byte) :: vT) rm_J0_coder_7d493 (va_Pc [.ref (K.2.1.1 i0)] (vPre K [] sz)) (Qc_J0_coder_7d493 K  post (va_A [] sz)) 0 0 (va_A [] sz) := by
  unfold wp_J0_coder_7d493 at hw
  refine Met.ofW (cc := cJ0_coder_7d493) (maxL := 1) (ret := (some .byte)) (by decide) rfl ?_
  intro p e s m args below meth c s₁ B hml hv
  obtain ⟨rfl, hsz, hP, hK, hD0, hG, hR⟩ := hv
  have hx := B.exec
  have hb := B.bytes
  have hr := B.returns
  have hts : ∀ w ∈ vT, w.before _ s = true := fun w h => atoms_spec (ws := .code yJ0_coder_7d493 cJ0_coder_7d493 1 (some .byte) :: vT) B.pre w (List.mem_cons_of_mem _ h)
  have hown : s.vm.findClass RJ0 = some m.cls := findClass_of_methodNamed B.named
  have hlocks := B.notSynchronized
  subst hsz
  have hD := hD0.self (sz := s.heap.size)
  show W p l e (rm_J0_coder_7d493) s m _ below meth c s.heap [] 0 0 _ _
  generalize hAe : va_A [] s.heap.size = A at hD hG ⊢
  have hX : vX K A s := ⟨hK, hG, hR, fun q h => by rw [← hAe]; exact Or.inr h⟩
  have hS : va_S A s.heap s.heap [] := va_S.rf
  have F : vFx p s m ([.ref (K.2.1.1 i0)] : List Value).toArray meth c cJ0_coder_7d493 RJ0 1 (some .byte) := ⟨hx, hb, hml, hown, hts, hr, hlocks⟩
  have hl := lv_entry ([.ref (K.2.1.1 i0)]) (n := 1) (Nat.le_of_ble_eq_true rfl)
  rw [lg_entry_eq]
  generalize (lg_sl ([.ref (K.2.1.1 i0)]) ++ List.replicate (1 - (lg_sl ([.ref (K.2.1.1 i0)])).length) Slot.unset).toArray = ls at hl ⊢
  have hl : lv_has ls 1 [(0, .ref (K.2.1.1 i0))] := hl
  obtain ⟨H, hHe⟩ : ∃ H, H = s.heap := ⟨_, rfl⟩
  have hS : va_S A s.heap H [] := by rw [hHe]; exact hS
  have hP : va_P K.1 vwCl [] H := by rw [hHe]; exact hP
  refine vWH hHe ?_
  refine va_gets hx hb hX.2.1.2.2.2.2.1 hS hown (hts _ k_478) (fun _ h9 => h9) dJ0_coder_7d493_0 ?_
  refine lv_if_eq (tgt := 13) hx hb dJ0_coder_7d493_3 (by decide) (fun c_1 => ?_) (fun c_1 => ?_)
  · have hw := hw.1 c_1
    refine lv_iconst (v := (1 : Int32)) hx hb dJ0_coder_7d493_13 (by decide) ?_
    exact W.zret (v := (1 : Int32)) hx hb hr (by decide +kernel) (fun t ht hW => ⟨⟨(1 : Int32), (), rfl, ⟨(by decide +kernel), hw⟩, by rw [ht]; exact hP, va_K.moved hW.alike hX.1, hD⟩, hS.F ht⟩) hS.2.2 dJ0_coder_7d493_14 hlocks
  · have hw := hw.2 c_1
    refine lv_aload_n hx hb dJ0_coder_7d493_6 rfl (lv_at hl 0 rfl) ?_
    refine vk_getf hx hb (hX.2.1.2.2.2.2.2.1.1 i0 hi0).2.1 hS hown (hts _ k_1242) (fun _ h9 => h9) dJ0_coder_7d493_7 ?_
    refine lv_goto (tgt := 14) hx hb dJ0_coder_7d493_10 (by decide) ?_
    exact W.zret (v := (0 : Int32)) hx hb hr (by decide +kernel) (fun t ht hW => ⟨⟨(0 : Int32), (), rfl, ⟨(by decide +kernel), hw⟩, by rw [ht]; exact hP, va_K.moved hW.alike hX.1, hD⟩, hS.F ht⟩) hS.2.2 dJ0_coder_7d493_14 hlocks
/-! java/lang/String.length()I -/
def wp_J0_length_8abf5 (i0 : Nat) (post : Int32 → Prop) : Prop := wp_J0_coder_7d493 i0 (fun r_1 => post ((Int32.ofNat (vLen.getD i0 0)) >>> (r_1 &&& 31)))
abbrev rm_J0_length_8abf5 : Room := { frames := 1, cells := 0, slots := 0, locals := 20 }
abbrev Qc_J0_length_8abf5 (K : vGl)     (post : Int32 → Prop) (A : Nat → Prop) : Array Value → State → Outcome → State → Prop := va_Qi (fun (r : Int32) (u : Unit) => post r ) (fun u t => vB K A [] t) A
set_option maxHeartbeats 4000000 in
set_option maxRecDepth 100000 in
theorem c_J0_length_8abf5 (l : Launch) (K : vGl)    (sz : Nat)  (post : Int32 → Prop) (i0 : Nat) (hi0 : i0 < 3) (hw : wp_J0_length_8abf5 i0 post) : Met l yJ0_length_8abf5 (.code yJ0_length_8abf5 cJ0_length_8abf5 1 (some .int) :: vT) rm_J0_length_8abf5 (va_Pc [.ref (K.2.1.1 i0)] (vPre K [] sz)) (Qc_J0_length_8abf5 K  post (va_A [] sz)) 0 0 (va_A [] sz) := by
  unfold wp_J0_length_8abf5 at hw
  refine Met.ofW (cc := cJ0_length_8abf5) (maxL := 1) (ret := (some .int)) (by decide) rfl ?_
  intro p e s m args below meth c s₁ B hml hv
  obtain ⟨rfl, hsz, hP, hK, hD0, hG, hR⟩ := hv
  have hx := B.exec
  have hb := B.bytes
  have hr := B.returns
  have hts : ∀ w ∈ vT, w.before _ s = true := fun w h => atoms_spec (ws := .code yJ0_length_8abf5 cJ0_length_8abf5 1 (some .int) :: vT) B.pre w (List.mem_cons_of_mem _ h)
  have hown : s.vm.findClass RJ0 = some m.cls := findClass_of_methodNamed B.named
  have hlocks := B.notSynchronized
  subst hsz
  have hD := hD0.self (sz := s.heap.size)
  show W p l e (rm_J0_length_8abf5) s m _ below meth c s.heap [] 0 0 _ _
  generalize hAe : va_A [] s.heap.size = A at hD hG ⊢
  have hX : vX K A s := ⟨hK, hG, hR, fun q h => by rw [← hAe]; exact Or.inr h⟩
  have hS : va_S A s.heap s.heap [] := va_S.rf
  have F : vFx p s m ([.ref (K.2.1.1 i0)] : List Value).toArray meth c cJ0_length_8abf5 RJ0 1 (some .int) := ⟨hx, hb, hml, hown, hts, hr, hlocks⟩
  have hl := lv_entry ([.ref (K.2.1.1 i0)]) (n := 1) (Nat.le_of_ble_eq_true rfl)
  rw [lg_entry_eq]
  generalize (lg_sl ([.ref (K.2.1.1 i0)]) ++ List.replicate (1 - (lg_sl ([.ref (K.2.1.1 i0)])).length) Slot.unset).toArray = ls at hl ⊢
  have hl : lv_has ls 1 [(0, .ref (K.2.1.1 i0))] := hl
  obtain ⟨H, hHe⟩ : ∃ H, H = s.heap := ⟨_, rfl⟩
  have hS : va_S A s.heap H [] := by rw [hHe]; exact hS
  have hP : va_P K.1 vwCl [] H := by rw [hHe]; exact hP
  refine vWH hHe ?_
  refine lv_aload_n hx hb dJ0_length_8abf5_0 rfl (lv_at hl 0 rfl) ?_
  refine vk_getf hx hb (hX.2.1.2.2.2.2.2.1.1 i0 hi0).2.2.1 hS hown (hts _ k_1241) (fun _ h9 => h9) dJ0_length_8abf5_1 ?_
  refine va_tlen (v := (Int32.ofNat (vLen.getD i0 0))) hx hb (hX.2.1.2.2.2.2.2.1.1 i0 hi0).2.2.2 hS rfl dJ0_length_8abf5_4 ?_
  refine lv_aload_n hx hb dJ0_length_8abf5_5 rfl (lv_at hl 0 rfl) ?_
  refine vCalli (K := K) (wr := []) (w1 := (fun _ => [])) (va_runV (As := []) (rest := [.int (Int32.ofNat (vLen.getD i0 0))]) ⟨hx, hb, hml, hown, hts⟩ (c_J0_coder_7d493 l K  H.size  _ i0 hi0 hw) (cwV 0 hts (vGoodV k_474 k_475 k_476 k_68 k_477) rfl rfl rfl (by decide +kernel) ⟨Nat.le_of_ble_eq_true rfl, Nat.le_of_ble_eq_true rfl⟩) ⟨vPre_blind, vk_recv hX.2.1.2.2.2.2.2.1 hi0 hS, fun U hU hW => ⟨rfl, vPre_of hX hP hD hS [] rfl (by decide) U hU hW⟩⟩ rfl rfl hl.1 rfl (lv_room (Nat.le_of_ble_eq_true rfl)) dJ0_length_8abf5_6 ⟨Nat.zero_le _, Nat.zero_le _⟩) hX hP hD hS [] [] rfl rfl (by decide) (by decide) (fun r_1 u H locs hw hP hD hS => ?_)
  have hz_r_1 := hw.1
  have hw := hw.2
  refine lv_ishr hx hb dJ0_length_8abf5_9 ?_
  exact W.iret (v := ((Int32.ofNat (vLen.getD i0 0)) >>> (r_1 &&& 31))) hx hb hr (fun t ht hW => ⟨⟨((Int32.ofNat (vLen.getD i0 0)) >>> (r_1 &&& 31)), (), rfl, hw, by rw [ht]; exact hP, va_K.moved hW.alike hX.1, hD⟩, hS.F ht⟩) hS.2.2 dJ0_length_8abf5_10 hlocks
/-! java/lang/String.isLatin1()Z -/
def wp_J0_isLatin1_aae02 (i0 : Nat) (post : Int32 → Prop) : Prop := ((1 : Int32) = 0 → (post (0 : Int32))) ∧ (¬ (1 : Int32) = 0 → (((0 : Int32) = 0 → (post (1 : Int32))) ∧ (¬ (0 : Int32) = 0 → (post (0 : Int32)))))
abbrev rm_J0_isLatin1_aae02 : Room := { frames := 0, cells := 0, slots := 0, locals := 0 }
abbrev Qc_J0_isLatin1_aae02 (K : vGl)     (post : Int32 → Prop) (A : Nat → Prop) : Array Value → State → Outcome → State → Prop := va_Qi (fun (r : Int32) (u : Unit) => (r = 0 ∨ r = 1) ∧ post r ) (fun u t => vB K A [] t) A
set_option maxHeartbeats 4000000 in
set_option maxRecDepth 100000 in
theorem c_J0_isLatin1_aae02 (l : Launch) (K : vGl)    (sz : Nat)  (post : Int32 → Prop) (i0 : Nat) (hi0 : i0 < 3) (hw : wp_J0_isLatin1_aae02 i0 post) : Met l yJ0_isLatin1_aae02 (.code yJ0_isLatin1_aae02 cJ0_isLatin1_aae02 1 (some .boolean) :: vT) rm_J0_isLatin1_aae02 (va_Pc [.ref (K.2.1.1 i0)] (vPre K [] sz)) (Qc_J0_isLatin1_aae02 K  post (va_A [] sz)) 0 0 (va_A [] sz) := by
  unfold wp_J0_isLatin1_aae02 at hw
  refine Met.ofW (cc := cJ0_isLatin1_aae02) (maxL := 1) (ret := (some .boolean)) (by decide) rfl ?_
  intro p e s m args below meth c s₁ B hml hv
  obtain ⟨rfl, hsz, hP, hK, hD0, hG, hR⟩ := hv
  have hx := B.exec
  have hb := B.bytes
  have hr := B.returns
  have hts : ∀ w ∈ vT, w.before _ s = true := fun w h => atoms_spec (ws := .code yJ0_isLatin1_aae02 cJ0_isLatin1_aae02 1 (some .boolean) :: vT) B.pre w (List.mem_cons_of_mem _ h)
  have hown : s.vm.findClass RJ0 = some m.cls := findClass_of_methodNamed B.named
  have hlocks := B.notSynchronized
  subst hsz
  have hD := hD0.self (sz := s.heap.size)
  show W p l e (rm_J0_isLatin1_aae02) s m _ below meth c s.heap [] 0 0 _ _
  generalize hAe : va_A [] s.heap.size = A at hD hG ⊢
  have hX : vX K A s := ⟨hK, hG, hR, fun q h => by rw [← hAe]; exact Or.inr h⟩
  have hS : va_S A s.heap s.heap [] := va_S.rf
  have F : vFx p s m ([.ref (K.2.1.1 i0)] : List Value).toArray meth c cJ0_isLatin1_aae02 RJ0 1 (some .boolean) := ⟨hx, hb, hml, hown, hts, hr, hlocks⟩
  have hl := lv_entry ([.ref (K.2.1.1 i0)]) (n := 1) (Nat.le_of_ble_eq_true rfl)
  rw [lg_entry_eq]
  generalize (lg_sl ([.ref (K.2.1.1 i0)]) ++ List.replicate (1 - (lg_sl ([.ref (K.2.1.1 i0)])).length) Slot.unset).toArray = ls at hl ⊢
  have hl : lv_has ls 1 [(0, .ref (K.2.1.1 i0))] := hl
  obtain ⟨H, hHe⟩ : ∃ H, H = s.heap := ⟨_, rfl⟩
  have hS : va_S A s.heap H [] := by rw [hHe]; exact hS
  have hP : va_P K.1 vwCl [] H := by rw [hHe]; exact hP
  refine vWH hHe ?_
  refine va_gets hx hb hX.2.1.2.2.2.2.1 hS hown (hts _ k_478) (fun _ h9 => h9) dJ0_isLatin1_aae02_0 ?_
  refine lv_if_eq (tgt := 17) hx hb dJ0_isLatin1_aae02_3 (by decide) (fun c_1 => ?_) (fun c_1 => ?_)
  · have hw := hw.1 c_1
    refine lv_iconst (v := (0 : Int32)) hx hb dJ0_isLatin1_aae02_17 (by decide) ?_
    exact W.zret (v := (0 : Int32)) hx hb hr vZ0 (fun t ht hW => ⟨⟨(0 : Int32), (), rfl, ⟨Or.inl rfl, hw⟩, by rw [ht]; exact hP, va_K.moved hW.alike hX.1, hD⟩, hS.F ht⟩) hS.2.2 dJ0_isLatin1_aae02_18 hlocks
  · have hw := hw.2 c_1
    refine lv_aload_n hx hb dJ0_isLatin1_aae02_6 rfl (lv_at hl 0 rfl) ?_
    refine vk_getf hx hb (hX.2.1.2.2.2.2.2.1.1 i0 hi0).2.1 hS hown (hts _ k_1242) (fun _ h9 => h9) dJ0_isLatin1_aae02_7 ?_
    refine lv_if_ne (tgt := 17) hx hb dJ0_isLatin1_aae02_10 (by decide) (fun c_2 => ?_) (fun c_2 => ?_)
    · have hw := hw.2 c_2
      refine lv_iconst (v := (0 : Int32)) hx hb dJ0_isLatin1_aae02_17 (by decide) ?_
      exact W.zret (v := (0 : Int32)) hx hb hr vZ0 (fun t ht hW => ⟨⟨(0 : Int32), (), rfl, ⟨Or.inl rfl, hw⟩, by rw [ht]; exact hP, va_K.moved hW.alike hX.1, hD⟩, hS.F ht⟩) hS.2.2 dJ0_isLatin1_aae02_18 hlocks
    · have hw := hw.1 c_2
      refine lv_iconst (v := (1 : Int32)) hx hb dJ0_isLatin1_aae02_13 (by decide) ?_
      refine lv_goto (tgt := 18) hx hb dJ0_isLatin1_aae02_14 (by decide) ?_
      exact W.zret (v := (1 : Int32)) hx hb hr vZ1 (fun t ht hW => ⟨⟨(1 : Int32), (), rfl, ⟨Or.inr rfl, hw⟩, by rw [ht]; exact hP, va_K.moved hW.alike hX.1, hD⟩, hS.F ht⟩) hS.2.2 dJ0_isLatin1_aae02_18 hlocks
/-! jdk/internal/util/Preconditions.checkIndex(IILjava/util/function/BiFunction;)I -/
def wp_J3_checkIndex_8e157 (a1 : Int32) (a2 : Int32) (post : Int32 → Prop) : Prop := (a1 < 0 → (False)) ∧ (¬ a1 < 0 → ((a1 < a2 → (post a1)) ∧ (¬ a1 < a2 → (False))))
abbrev rm_J3_checkIndex_8e157 : Room := { frames := 0, cells := 0, slots := 0, locals := 0 }
abbrev Qc_J3_checkIndex_8e157 (K : vGl)     (post : Int32 → Prop) (A : Nat → Prop) : Array Value → State → Outcome → State → Prop := va_Qi (fun (r : Int32) (u : Unit) => post r ) (fun u t => vB K A [] t) A
set_option maxHeartbeats 4000000 in
set_option maxRecDepth 100000 in
theorem c_J3_checkIndex_8e157 (l : Launch) (K : vGl)    (sz : Nat) (a1 : Int32) (a2 : Int32) (post : Int32 → Prop) (o1 : Option Nat) (hw : wp_J3_checkIndex_8e157 a1 a2 post) : Met l yJ3_checkIndex_8e157 (.code yJ3_checkIndex_8e157 cJ3_checkIndex_8e157 3 (some .int) :: vT) rm_J3_checkIndex_8e157 (va_Pc [.int a1, .int a2, (va_rf o1)] (vPre K [] sz)) (Qc_J3_checkIndex_8e157 K  post (va_A [] sz)) 0 0 (va_A [] sz) := by
  rcases o1 with _ | o1
  · show Met l yJ3_checkIndex_8e157 (.code yJ3_checkIndex_8e157 cJ3_checkIndex_8e157 3 (some .int) :: vT) rm_J3_checkIndex_8e157 (va_Pc [.int a1, .int a2, .null] (vPre K [] sz)) (Qc_J3_checkIndex_8e157 K  post (va_A [] sz)) 0 0 (va_A [] sz)
    unfold wp_J3_checkIndex_8e157 at hw
    refine Met.ofW (cc := cJ3_checkIndex_8e157) (maxL := 3) (ret := (some .int)) (by decide) rfl ?_
    intro p e s m args below meth c s₁ B hml hv
    obtain ⟨rfl, hsz, hP, hK, hD0, hG, hR⟩ := hv
    have hx := B.exec
    have hb := B.bytes
    have hr := B.returns
    have hts : ∀ w ∈ vT, w.before _ s = true := fun w h => atoms_spec (ws := .code yJ3_checkIndex_8e157 cJ3_checkIndex_8e157 3 (some .int) :: vT) B.pre w (List.mem_cons_of_mem _ h)
    have hown : s.vm.findClass RJ3 = some m.cls := findClass_of_methodNamed B.named
    have hlocks := B.notSynchronized
    subst hsz
    have hD := hD0.self (sz := s.heap.size)
    show W p l e (rm_J3_checkIndex_8e157) s m _ below meth c s.heap [] 0 0 _ _
    generalize hAe : va_A [] s.heap.size = A at hD hG ⊢
    have hX : vX K A s := ⟨hK, hG, hR, fun q h => by rw [← hAe]; exact Or.inr h⟩
    have hS : va_S A s.heap s.heap [] := va_S.rf
    have F : vFx p s m ([.int a1, .int a2, .null] : List Value).toArray meth c cJ3_checkIndex_8e157 RJ3 3 (some .int) := ⟨hx, hb, hml, hown, hts, hr, hlocks⟩
    have hl := lv_entry ([.int a1, .int a2, .null]) (n := 3) (Nat.le_of_ble_eq_true rfl)
    rw [lg_entry_eq]
    generalize (lg_sl ([.int a1, .int a2, .null]) ++ List.replicate (3 - (lg_sl ([.int a1, .int a2, .null])).length) Slot.unset).toArray = ls at hl ⊢
    have hl : lv_has ls 3 [(0, .int a1), (1, .int a2), (2, .null)] := hl
    obtain ⟨H, hHe⟩ : ∃ H, H = s.heap := ⟨_, rfl⟩
    have hS : va_S A s.heap H [] := by rw [hHe]; exact hS
    have hP : va_P K.1 vwCl [] H := by rw [hHe]; exact hP
    refine vWH hHe ?_
    refine lv_iload_n hx hb dJ3_checkIndex_8e157_0 rfl (lv_at hl 0 rfl) ?_
    refine lv_if_lt (tgt := 9) hx hb dJ3_checkIndex_8e157_1 (by decide) (fun c_1 => ?_) (fun c_1 => ?_)
    · have hw := hw.1 c_1
      exact hw.elim
    · have hw := hw.2 c_1
      refine lv_iload_n hx hb dJ3_checkIndex_8e157_4 rfl (lv_at hl 0 rfl) ?_
      refine lv_iload_n hx hb dJ3_checkIndex_8e157_5 rfl (lv_at hl 1 rfl) ?_
      refine lv_icmp_lt (tgt := 16) hx hb dJ3_checkIndex_8e157_6 (by decide) (fun c_2 => ?_) (fun c_2 => ?_)
      · have hw := hw.1 c_2
        refine lv_iload_n hx hb dJ3_checkIndex_8e157_16 rfl (lv_at hl 0 rfl) ?_
        exact W.iret (v := a1) hx hb hr (fun t ht hW => ⟨⟨a1, (), rfl, hw, by rw [ht]; exact hP, va_K.moved hW.alike hX.1, hD⟩, hS.F ht⟩) hS.2.2 dJ3_checkIndex_8e157_17 hlocks
      · have hw := hw.2 c_2
        exact hw.elim
  · show Met l yJ3_checkIndex_8e157 (.code yJ3_checkIndex_8e157 cJ3_checkIndex_8e157 3 (some .int) :: vT) rm_J3_checkIndex_8e157 (va_Pc [.int a1, .int a2, (.ref o1)] (vPre K [] sz)) (Qc_J3_checkIndex_8e157 K  post (va_A [] sz)) 0 0 (va_A [] sz)
    unfold wp_J3_checkIndex_8e157 at hw
    refine Met.ofW (cc := cJ3_checkIndex_8e157) (maxL := 3) (ret := (some .int)) (by decide) rfl ?_
    intro p e s m args below meth c s₁ B hml hv
    obtain ⟨rfl, hsz, hP, hK, hD0, hG, hR⟩ := hv
    have hx := B.exec
    have hb := B.bytes
    have hr := B.returns
    have hts : ∀ w ∈ vT, w.before _ s = true := fun w h => atoms_spec (ws := .code yJ3_checkIndex_8e157 cJ3_checkIndex_8e157 3 (some .int) :: vT) B.pre w (List.mem_cons_of_mem _ h)
    have hown : s.vm.findClass RJ3 = some m.cls := findClass_of_methodNamed B.named
    have hlocks := B.notSynchronized
    subst hsz
    have hD := hD0.self (sz := s.heap.size)
    show W p l e (rm_J3_checkIndex_8e157) s m _ below meth c s.heap [] 0 0 _ _
    generalize hAe : va_A [] s.heap.size = A at hD hG ⊢
    have hX : vX K A s := ⟨hK, hG, hR, fun q h => by rw [← hAe]; exact Or.inr h⟩
    have hS : va_S A s.heap s.heap [] := va_S.rf
    have F : vFx p s m ([.int a1, .int a2, (.ref o1)] : List Value).toArray meth c cJ3_checkIndex_8e157 RJ3 3 (some .int) := ⟨hx, hb, hml, hown, hts, hr, hlocks⟩
    have hl := lv_entry ([.int a1, .int a2, (.ref o1)]) (n := 3) (Nat.le_of_ble_eq_true rfl)
    rw [lg_entry_eq]
    generalize (lg_sl ([.int a1, .int a2, (.ref o1)]) ++ List.replicate (3 - (lg_sl ([.int a1, .int a2, (.ref o1)])).length) Slot.unset).toArray = ls at hl ⊢
    have hl : lv_has ls 3 [(0, .int a1), (1, .int a2), (2, (.ref o1))] := hl
    obtain ⟨H, hHe⟩ : ∃ H, H = s.heap := ⟨_, rfl⟩
    have hS : va_S A s.heap H [] := by rw [hHe]; exact hS
    have hP : va_P K.1 vwCl [] H := by rw [hHe]; exact hP
    refine vWH hHe ?_
    refine lv_iload_n hx hb dJ3_checkIndex_8e157_0 rfl (lv_at hl 0 rfl) ?_
    refine lv_if_lt (tgt := 9) hx hb dJ3_checkIndex_8e157_1 (by decide) (fun c_1 => ?_) (fun c_1 => ?_)
    · have hw := hw.1 c_1
      exact hw.elim
    · have hw := hw.2 c_1
      refine lv_iload_n hx hb dJ3_checkIndex_8e157_4 rfl (lv_at hl 0 rfl) ?_
      refine lv_iload_n hx hb dJ3_checkIndex_8e157_5 rfl (lv_at hl 1 rfl) ?_
      refine lv_icmp_lt (tgt := 16) hx hb dJ3_checkIndex_8e157_6 (by decide) (fun c_2 => ?_) (fun c_2 => ?_)
      · have hw := hw.1 c_2
        refine lv_iload_n hx hb dJ3_checkIndex_8e157_16 rfl (lv_at hl 0 rfl) ?_
        exact W.iret (v := a1) hx hb hr (fun t ht hW => ⟨⟨a1, (), rfl, hw, by rw [ht]; exact hP, va_K.moved hW.alike hX.1, hD⟩, hS.F ht⟩) hS.2.2 dJ3_checkIndex_8e157_17 hlocks
      · have hw := hw.2 c_2
        exact hw.elim
/-! java/lang/String.checkIndex(II)V -/
def wp_J0_checkIndex_df160 (a1 : Int32) (a2 : Int32) (post : Prop) : Prop := wp_J3_checkIndex_8e157 a1 a2 (fun r_1 => post )
abbrev rm_J0_checkIndex_df160 : Room := { frames := 1, cells := 0, slots := 0, locals := 22 }
abbrev Qc_J0_checkIndex_df160 (K : vGl)     (post : Prop) (A : Nat → Prop) : Array Value → State → Outcome → State → Prop := va_Qv (fun (u : Unit) => post ) (fun u t => vB K A [] t) A
set_option maxHeartbeats 4000000 in
set_option maxRecDepth 100000 in
theorem c_J0_checkIndex_df160 (l : Launch) (K : vGl)    (sz : Nat) (a1 : Int32) (a2 : Int32) (post : Prop) (hw : wp_J0_checkIndex_df160 a1 a2 post) : Met l yJ0_checkIndex_df160 (.code yJ0_checkIndex_df160 cJ0_checkIndex_df160 2 (none : Option Jvm.ClassFile.FieldType) :: vT) rm_J0_checkIndex_df160 (va_Pc [.int a1, .int a2] (vPre K [] sz)) (Qc_J0_checkIndex_df160 K  post (va_A [] sz)) 0 0 (va_A [] sz) := by
  unfold wp_J0_checkIndex_df160 at hw
  refine Met.ofW (cc := cJ0_checkIndex_df160) (maxL := 2) (ret := (none : Option Jvm.ClassFile.FieldType)) (by decide) rfl ?_
  intro p e s m args below meth c s₁ B hml hv
  obtain ⟨rfl, hsz, hP, hK, hD0, hG, hR⟩ := hv
  have hx := B.exec
  have hb := B.bytes
  have hr := B.returns
  have hts : ∀ w ∈ vT, w.before _ s = true := fun w h => atoms_spec (ws := .code yJ0_checkIndex_df160 cJ0_checkIndex_df160 2 (none : Option Jvm.ClassFile.FieldType) :: vT) B.pre w (List.mem_cons_of_mem _ h)
  have hown : s.vm.findClass RJ0 = some m.cls := findClass_of_methodNamed B.named
  have hlocks := B.notSynchronized
  subst hsz
  have hD := hD0.self (sz := s.heap.size)
  show W p l e (rm_J0_checkIndex_df160) s m _ below meth c s.heap [] 0 0 _ _
  generalize hAe : va_A [] s.heap.size = A at hD hG ⊢
  have hX : vX K A s := ⟨hK, hG, hR, fun q h => by rw [← hAe]; exact Or.inr h⟩
  have hS : va_S A s.heap s.heap [] := va_S.rf
  have F : vFx p s m ([.int a1, .int a2] : List Value).toArray meth c cJ0_checkIndex_df160 RJ0 2 (none : Option Jvm.ClassFile.FieldType) := ⟨hx, hb, hml, hown, hts, hr, hlocks⟩
  have hl := lv_entry ([.int a1, .int a2]) (n := 2) (Nat.le_of_ble_eq_true rfl)
  rw [lg_entry_eq]
  generalize (lg_sl ([.int a1, .int a2]) ++ List.replicate (2 - (lg_sl ([.int a1, .int a2])).length) Slot.unset).toArray = ls at hl ⊢
  have hl : lv_has ls 2 [(0, .int a1), (1, .int a2)] := hl
  obtain ⟨H, hHe⟩ : ∃ H, H = s.heap := ⟨_, rfl⟩
  have hS : va_S A s.heap H [] := by rw [hHe]; exact hS
  have hP : va_P K.1 vwCl [] H := by rw [hHe]; exact hP
  refine vWH hHe ?_
  refine lv_iload_n hx hb dJ0_checkIndex_df160_0 rfl (lv_at hl 0 rfl) ?_
  refine lv_iload_n hx hb dJ0_checkIndex_df160_1 rfl (lv_at hl 1 rfl) ?_
  obtain ⟨o1, hZ⟩ := hX.2.1.2.2.2.2.2.2.one
  refine va_gets hx hb hZ hS hown (hts _ k_494) (fun _ h9 => h9) dJ0_checkIndex_df160_2 ?_
  refine vCalli (K := K) (wr := []) (w1 := (fun _ => [])) (va_runS (As := [.int a1, .int a2, (va_rf o1)]) (rest := []) ⟨hx, hb, hml, hown, hts⟩ (c_J3_checkIndex_8e157 l K  H.size a1 a2 _ o1 hw) (va_cwS 3 hts (vGoodS k_496 k_497 k_70 k_498) rfl rfl rfl (by decide +kernel) ⟨Nat.le_of_ble_eq_true rfl, Nat.le_of_ble_eq_true rfl⟩) ⟨vPre_blind, fun U hU hW => ⟨rfl, vPre_of hX hP hD hS [] rfl (by decide) U hU hW⟩⟩ rfl rfl hl.1 rfl (lv_room (Nat.le_of_ble_eq_true rfl)) dJ0_checkIndex_df160_5 ⟨Nat.zero_le _, Nat.zero_le _⟩) hX hP hD hS [] [] rfl rfl (by decide) (by decide) (fun r_1 u H locs hw hP hD hS => ?_)
  refine lv_pop hx hb dJ0_checkIndex_df160_8 rfl ?_
  exact W.vret hx hb hr (fun t ht hW => ⟨⟨(), rfl, hw, by rw [ht]; exact hP, va_K.moved hW.alike hX.1, hD⟩, hS.F ht⟩) hS.2.2 dJ0_checkIndex_df160_9 hlocks
/-! java/lang/StringLatin1.charAt([BI)C -/
def wp_J1_charAt_3b067 (i0 : Nat) (a2 : Int32) (post : Int32 → Prop) : Prop := wp_J0_checkIndex_df160 a2 (Int32.ofNat (vLen.getD i0 0)) (vp_in a2 (vLen.getD i0 0) ∧ (post (((((vByt.getD i0 []).getD a2.toNatClampNeg 0) &&& (255 : Int32)).toUInt32 % 65536).toInt32)))
abbrev rm_J1_charAt_3b067 : Room := { frames := 2, cells := 0, slots := 0, locals := 43 }
abbrev Qc_J1_charAt_3b067 (K : vGl)     (post : Int32 → Prop) (A : Nat → Prop) : Array Value → State → Outcome → State → Prop := va_Qi (fun (r : Int32) (u : Unit) => narrow .char (.int r) = .int r ∧ post r ) (fun u t => vB K A [] t) A
set_option maxHeartbeats 4000000 in
set_option maxRecDepth 100000 in
theorem c_J1_charAt_3b067 (l : Launch) (K : vGl)    (sz : Nat) (a2 : Int32) (post : Int32 → Prop) (i0 : Nat) (hi0 : i0 < 3) (hw : wp_J1_charAt_3b067 i0 a2 post) : Met l yJ1_charAt_3b067 (.code yJ1_charAt_3b067 cJ1_charAt_3b067 2 (some .char) :: vT) rm_J1_charAt_3b067 (va_Pc [.ref (K.2.1.2.1 i0), .int a2] (vPre K [] sz)) (Qc_J1_charAt_3b067 K  post (va_A [] sz)) 0 0 (va_A [] sz) := by
  unfold wp_J1_charAt_3b067 at hw
  refine Met.ofW (cc := cJ1_charAt_3b067) (maxL := 2) (ret := (some .char)) (by decide) rfl ?_
  intro p e s m args below meth c s₁ B hml hv
  obtain ⟨rfl, hsz, hP, hK, hD0, hG, hR⟩ := hv
  have hx := B.exec
  have hb := B.bytes
  have hr := B.returns
  have hts : ∀ w ∈ vT, w.before _ s = true := fun w h => atoms_spec (ws := .code yJ1_charAt_3b067 cJ1_charAt_3b067 2 (some .char) :: vT) B.pre w (List.mem_cons_of_mem _ h)
  have hown : s.vm.findClass RJ1 = some m.cls := findClass_of_methodNamed B.named
  have hlocks := B.notSynchronized
  subst hsz
  have hD := hD0.self (sz := s.heap.size)
  show W p l e (rm_J1_charAt_3b067) s m _ below meth c s.heap [] 0 0 _ _
  generalize hAe : va_A [] s.heap.size = A at hD hG ⊢
  have hX : vX K A s := ⟨hK, hG, hR, fun q h => by rw [← hAe]; exact Or.inr h⟩
  have hS : va_S A s.heap s.heap [] := va_S.rf
  have F : vFx p s m ([.ref (K.2.1.2.1 i0), .int a2] : List Value).toArray meth c cJ1_charAt_3b067 RJ1 2 (some .char) := ⟨hx, hb, hml, hown, hts, hr, hlocks⟩
  have hl := lv_entry ([.ref (K.2.1.2.1 i0), .int a2]) (n := 2) (Nat.le_of_ble_eq_true rfl)
  rw [lg_entry_eq]
  generalize (lg_sl ([.ref (K.2.1.2.1 i0), .int a2]) ++ List.replicate (2 - (lg_sl ([.ref (K.2.1.2.1 i0), .int a2])).length) Slot.unset).toArray = ls at hl ⊢
  have hl : lv_has ls 2 [(0, .ref (K.2.1.2.1 i0)), (1, .int a2)] := hl
  obtain ⟨H, hHe⟩ : ∃ H, H = s.heap := ⟨_, rfl⟩
  have hS : va_S A s.heap H [] := by rw [hHe]; exact hS
  have hP : va_P K.1 vwCl [] H := by rw [hHe]; exact hP
  refine vWH hHe ?_
  refine lv_iload_n hx hb dJ1_charAt_3b067_0 rfl (lv_at hl 1 rfl) ?_
  refine lv_aload_n hx hb dJ1_charAt_3b067_1 rfl (lv_at hl 0 rfl) ?_
  refine va_tlen (v := (Int32.ofNat (vLen.getD i0 0))) hx hb (hX.2.1.2.2.2.2.2.1.1 i0 hi0).2.2.2 hS rfl dJ1_charAt_3b067_2 ?_
  refine vCallv (K := K) (wr := []) (w1 := (fun _ => [])) (va_runS (As := [.int a2, .int (Int32.ofNat (vLen.getD i0 0))]) (rest := []) ⟨hx, hb, hml, hown, hts⟩ (c_J0_checkIndex_df160 l K  H.size a2 (Int32.ofNat (vLen.getD i0 0)) _ hw) (va_cwS 2 hts (vGoodS k_491 k_492 k_68 k_493) rfl rfl rfl (by decide +kernel) ⟨Nat.le_of_ble_eq_true rfl, Nat.le_of_ble_eq_true rfl⟩) ⟨vPre_blind, fun U hU hW => ⟨rfl, vPre_of hX hP hD hS [] rfl (by decide) U hU hW⟩⟩ rfl rfl hl.1 rfl (lv_room (Nat.le_of_ble_eq_true rfl)) dJ1_charAt_3b067_3 ⟨Nat.zero_le _, Nat.zero_le _⟩) hX hP hD hS [] [] rfl rfl (by decide) (by decide) (fun u H locs hw hP hD hS => ?_)
  refine lv_aload_n hx hb dJ1_charAt_3b067_6 rfl (lv_at hl 0 rfl) ?_
  refine lv_iload_n hx hb dJ1_charAt_3b067_7 rfl (lv_at hl 1 rfl) ?_
  refine va_tb hx hb (hX.2.1.2.2.2.2.2.1.1 i0 hi0).2.2.2 hS hw.1 rfl dJ1_charAt_3b067_8 ?_
  have hw := hw.2
  refine lv_sipush (v := (255 : Int32)) hx hb dJ1_charAt_3b067_9 (by decide) ?_
  refine lv_iand hx hb dJ1_charAt_3b067_12 ?_
  refine lv_i2c (v := (((((vByt.getD i0 []).getD a2.toNatClampNeg 0) &&& (255 : Int32)).toUInt32 % 65536).toInt32)) hx hb dJ1_charAt_3b067_13 rfl ?_
  exact W.zret (v := (((((vByt.getD i0 []).getD a2.toNatClampNeg 0) &&& (255 : Int32)).toUInt32 % 65536).toInt32)) hx hb hr (pk_nc _) (fun t ht hW => ⟨⟨(((((vByt.getD i0 []).getD a2.toNatClampNeg 0) &&& (255 : Int32)).toUInt32 % 65536).toInt32), (), rfl, ⟨(pk_nc _), hw⟩, by rw [ht]; exact hP, va_K.moved hW.alike hX.1, hD⟩, hS.F ht⟩) hS.2.2 dJ1_charAt_3b067_14 hlocks
/-! java/lang/String.charAt(I)C -/
def wp_J0_charAt_5068e (i0 : Nat) (a1 : Int32) (post : Int32 → Prop) : Prop := wp_J0_isLatin1_aae02 i0 (fun r_1 => (r_1 = 0 → (False)) ∧ (¬ r_1 = 0 → (wp_J1_charAt_3b067 i0 a1 (fun r_3 => post r_3))))
abbrev rm_J0_charAt_5068e : Room := { frames := 3, cells := 0, slots := 0, locals := 64 }
abbrev Qc_J0_charAt_5068e (K : vGl)     (post : Int32 → Prop) (A : Nat → Prop) : Array Value → State → Outcome → State → Prop := va_Qi (fun (r : Int32) (u : Unit) => narrow .char (.int r) = .int r ∧ post r ) (fun u t => vB K A [] t) A
set_option maxHeartbeats 4000000 in
set_option maxRecDepth 100000 in
theorem c_J0_charAt_5068e (l : Launch) (K : vGl)    (sz : Nat) (a1 : Int32) (post : Int32 → Prop) (i0 : Nat) (hi0 : i0 < 3) (hw : wp_J0_charAt_5068e i0 a1 post) : Met l yJ0_charAt_5068e (.code yJ0_charAt_5068e cJ0_charAt_5068e 2 (some .char) :: vT) rm_J0_charAt_5068e (va_Pc [.ref (K.2.1.1 i0), .int a1] (vPre K [] sz)) (Qc_J0_charAt_5068e K  post (va_A [] sz)) 0 0 (va_A [] sz) := by
  unfold wp_J0_charAt_5068e at hw
  refine Met.ofW (cc := cJ0_charAt_5068e) (maxL := 2) (ret := (some .char)) (by decide) rfl ?_
  intro p e s m args below meth c s₁ B hml hv
  obtain ⟨rfl, hsz, hP, hK, hD0, hG, hR⟩ := hv
  have hx := B.exec
  have hb := B.bytes
  have hr := B.returns
  have hts : ∀ w ∈ vT, w.before _ s = true := fun w h => atoms_spec (ws := .code yJ0_charAt_5068e cJ0_charAt_5068e 2 (some .char) :: vT) B.pre w (List.mem_cons_of_mem _ h)
  have hown : s.vm.findClass RJ0 = some m.cls := findClass_of_methodNamed B.named
  have hlocks := B.notSynchronized
  subst hsz
  have hD := hD0.self (sz := s.heap.size)
  show W p l e (rm_J0_charAt_5068e) s m _ below meth c s.heap [] 0 0 _ _
  generalize hAe : va_A [] s.heap.size = A at hD hG ⊢
  have hX : vX K A s := ⟨hK, hG, hR, fun q h => by rw [← hAe]; exact Or.inr h⟩
  have hS : va_S A s.heap s.heap [] := va_S.rf
  have F : vFx p s m ([.ref (K.2.1.1 i0), .int a1] : List Value).toArray meth c cJ0_charAt_5068e RJ0 2 (some .char) := ⟨hx, hb, hml, hown, hts, hr, hlocks⟩
  have hl := lv_entry ([.ref (K.2.1.1 i0), .int a1]) (n := 2) (Nat.le_of_ble_eq_true rfl)
  rw [lg_entry_eq]
  generalize (lg_sl ([.ref (K.2.1.1 i0), .int a1]) ++ List.replicate (2 - (lg_sl ([.ref (K.2.1.1 i0), .int a1])).length) Slot.unset).toArray = ls at hl ⊢
  have hl : lv_has ls 2 [(0, .ref (K.2.1.1 i0)), (1, .int a1)] := hl
  obtain ⟨H, hHe⟩ : ∃ H, H = s.heap := ⟨_, rfl⟩
  have hS : va_S A s.heap H [] := by rw [hHe]; exact hS
  have hP : va_P K.1 vwCl [] H := by rw [hHe]; exact hP
  refine vWH hHe ?_
  refine lv_aload_n hx hb dJ0_charAt_5068e_0 rfl (lv_at hl 0 rfl) ?_
  refine vCalli (K := K) (wr := []) (w1 := (fun _ => [])) (va_runV (As := []) (rest := []) ⟨hx, hb, hml, hown, hts⟩ (c_J0_isLatin1_aae02 l K  H.size  _ i0 hi0 hw) (cwV 0 hts (vGoodV k_484 k_485 k_486 k_68 k_487) rfl rfl rfl (by decide +kernel) ⟨Nat.le_of_ble_eq_true rfl, Nat.le_of_ble_eq_true rfl⟩) ⟨vPre_blind, vk_recv hX.2.1.2.2.2.2.2.1 hi0 hS, fun U hU hW => ⟨rfl, vPre_of hX hP hD hS [] rfl (by decide) U hU hW⟩⟩ rfl rfl hl.1 rfl (lv_room (Nat.le_of_ble_eq_true rfl)) dJ0_charAt_5068e_1 ⟨Nat.zero_le _, Nat.zero_le _⟩) hX hP hD hS [] [] rfl rfl (by decide) (by decide) (fun r_1 u H locs hw hP hD hS => ?_)
  have hz_r_1 := hw.1
  have hw := hw.2
  refine lv_if_eq (tgt := 16) hx hb dJ0_charAt_5068e_4 (by decide) (fun c_2 => ?_) (fun c_2 => ?_)
  · have hw := hw.1 c_2
    refine lv_aload_n hx hb dJ0_charAt_5068e_16 rfl (lv_at hl 0 rfl) ?_
    refine vk_getf hx hb (hX.2.1.2.2.2.2.2.1.1 i0 hi0).2.2.1 hS hown (hts _ k_1241) (fun _ h9 => h9) dJ0_charAt_5068e_17 ?_
    refine lv_iload_n hx hb dJ0_charAt_5068e_20 rfl (lv_at hl 1 rfl) ?_
    exact hw.elim
  · have hw := hw.2 c_2
    refine lv_aload_n hx hb dJ0_charAt_5068e_7 rfl (lv_at hl 0 rfl) ?_
    refine vk_getf hx hb (hX.2.1.2.2.2.2.2.1.1 i0 hi0).2.2.1 hS hown (hts _ k_1241) (fun _ h9 => h9) dJ0_charAt_5068e_8 ?_
    refine lv_iload_n hx hb dJ0_charAt_5068e_11 rfl (lv_at hl 1 rfl) ?_
    refine vCalli (K := K) (wr := []) (w1 := (fun _ => [])) (va_runS (As := [.ref (K.2.1.2.1 i0), .int a1]) (rest := []) ⟨hx, hb, hml, hown, hts⟩ (c_J1_charAt_3b067 l K  H.size a1 _ i0 hi0 hw) (va_cwS 2 hts (vGoodS k_488 k_489 k_69 k_490) rfl rfl rfl (by decide +kernel) ⟨Nat.le_of_ble_eq_true rfl, Nat.le_of_ble_eq_true rfl⟩) ⟨vPre_blind, fun U hU hW => ⟨rfl, vPre_of hX hP hD hS [] rfl (by decide) U hU hW⟩⟩ rfl rfl hl.1 rfl (lv_room (Nat.le_of_ble_eq_true rfl)) dJ0_charAt_5068e_12 ⟨Nat.zero_le _, Nat.zero_le _⟩) hX hP hD hS [] [] rfl rfl (by decide) (by decide) (fun r_3 u H locs hw hP hD hS => ?_)
    have hz_r_3 := hw.1
    have hw := hw.2
    exact W.zret (v := r_3) hx hb hr hz_r_3 (fun t ht hW => ⟨⟨r_3, (), rfl, ⟨hz_r_3, hw⟩, by rw [ht]; exact hP, va_K.moved hW.alike hX.1, hD⟩, hS.F ht⟩) hS.2.2 dJ0_charAt_5068e_15 hlocks
/-! OvenRings$Reader.readsName(I)Z -/
def wp_X2_readsName_b2 (a1 : Int32) (v_names : Nat)  (post : Int32 → Int32 → Int32 → (Nat → Int32) → Prop) : Nat → Int32 → Int32 → Int32 → (Nat → Int32) → Prop
  | 0, _, _, _, _ => False
  | n + 1, x2, v_at, v_steps_many, v_steps_numbers => (v_names < 3) ∧ (wp_J0_length_8abf5 v_names (fun r_1 => (r_1 ≤ x2 → (post (0 : Int32) v_at v_steps_many v_steps_numbers)) ∧ (¬ r_1 ≤ x2 → ((v_names < 3) ∧ (wp_J0_charAt_5068e v_names x2 (fun r_3 => (r_3 = a1 → (wp_X3_add 50 ((10000 : Int32) + x2) v_steps_many v_steps_numbers (fun r_7 v_steps_many_5 v_steps_numbers_6 => post (1 : Int32) (v_at + (1 : Int32)) v_steps_many_5 v_steps_numbers_6))) ∧ (¬ r_3 = a1 → (wp_X2_readsName_b2 a1 v_names post n (x2 + (1 : Int32)) v_at v_steps_many v_steps_numbers))))))))
theorem u_X2_readsName_b2 {a1 : Int32} {v_names : Nat}  {post : Int32 → Int32 → Int32 → (Nat → Int32) → Prop} {n : Nat} {x2 : Int32} {v_at : Int32} {v_steps_many : Int32} {v_steps_numbers : Nat → Int32} (h : wp_X2_readsName_b2 a1 v_names post (n + 1) x2 v_at v_steps_many v_steps_numbers) : (v_names < 3) ∧ (wp_J0_length_8abf5 v_names (fun r_1 => (r_1 ≤ x2 → (post (0 : Int32) v_at v_steps_many v_steps_numbers)) ∧ (¬ r_1 ≤ x2 → ((v_names < 3) ∧ (wp_J0_charAt_5068e v_names x2 (fun r_3 => (r_3 = a1 → (wp_X3_add 50 ((10000 : Int32) + x2) v_steps_many v_steps_numbers (fun r_7 v_steps_many_5 v_steps_numbers_6 => post (1 : Int32) (v_at + (1 : Int32)) v_steps_many_5 v_steps_numbers_6))) ∧ (¬ r_3 = a1 → (wp_X2_readsName_b2 a1 v_names post n (x2 + (1 : Int32)) v_at v_steps_many v_steps_numbers)))))))) := h
def wp_X2_readsName (a1 : Int32) (v_names : Nat) (v_at : Int32) (v_steps_many : Int32) (v_steps_numbers : Nat → Int32) (post : Int32 → Int32 → Int32 → (Nat → Int32) → Prop) : Prop := ∃ k, wp_X2_readsName_b2 a1 v_names post k (0 : Int32) v_at v_steps_many v_steps_numbers
abbrev rm_X2_readsName : Room := { frames := 4, cells := 0, slots := 0, locals := 85 }
abbrev Qc_X2_readsName (K : vGl) (q_h q_h_steps q_h_steps_numbers : Nat)  (g_h_bytes : Value) (v_names : Nat) (post : Int32 → Int32 → Int32 → (Nat → Int32) → Prop) (A : Nat → Prop) : Array Value → State → Outcome → State → Prop := va_Qi (fun (r : Int32) (u : Int32 × Int32 × (Nat → Int32)) => (r = 0 ∨ r = 1) ∧ post r u.1 u.2.1 u.2.2) (fun u t => vB K A [(q_h, .inr (1, [.ref q_h_steps, g_h_bytes, .ref (K.2.1.1 v_names), .int u.1])), (q_h_steps, .inr (2, [.ref q_h_steps_numbers, .int u.2.1])), (q_h_steps_numbers, .inl (K.2.2.1, 50, .inl u.2.2))] t) A
set_option maxHeartbeats 4000000 in
set_option maxRecDepth 100000 in
theorem t_X2_readsName_b2 {p : Program} {l : Launch} {e : Env} {s : State} {m : MethodId} {args : Array Value} {below : List Frame} {meth : Method} {c : Code} {A : Nat → Prop} {K : vGl} {q_h q_h_steps q_h_steps_numbers : Nat} {g_h_bytes : Value} {a1 : Int32} {v_names : Nat} {post : Int32 → Int32 → Int32 → (Nat → Int32) → Prop} (F : vFx p s m args meth c cX2_readsName RX2 3 (some .boolean)) (hX : vX K A s) : ∀ (n : Nat) (x2 : Int32) (v_at : Int32) (v_steps_many : Int32) (v_steps_numbers : Nat → Int32) (H : Heap) (locs : List Loc) (ls : Array Slot), wp_X2_readsName_b2 a1 v_names post n x2 v_at v_steps_many v_steps_numbers → va_P K.1 vwCl [(q_h, .inr (1, [.ref q_h_steps, g_h_bytes, .ref (K.2.1.1 v_names), .int v_at])), (q_h_steps, .inr (2, [.ref q_h_steps_numbers, .int v_steps_many])), (q_h_steps_numbers, .inl (K.2.2.1, 50, .inl v_steps_numbers))] H → va_D A [(q_h, .inr (1, [.ref q_h_steps, g_h_bytes, .ref (K.2.1.1 v_names), .int v_at])), (q_h_steps, .inr (2, [.ref q_h_steps_numbers, .int v_steps_many])), (q_h_steps_numbers, .inl (K.2.2.1, 50, .inl v_steps_numbers))] → va_S A s.heap H locs → lv_has ls 3 [(0, .ref q_h), (1, .int a1), (2, .int x2)] → W p l e rm_X2_readsName s m args below meth c H locs 0 0 (MQ below (Qc_X2_readsName K q_h q_h_steps q_h_steps_numbers g_h_bytes v_names post A) args s 0 0 A) (F0 m 2 ls []) := by
  obtain ⟨hx, hb, hml, hown, hts, hr, hlocks⟩ := id F
  intro n
  induction n with
  | zero =>
    intro x2 v_at v_steps_many v_steps_numbers H locs ls hw
    exact hw.elim
  | succ n ih =>
    intro x2 v_at v_steps_many v_steps_numbers H locs ls hw hP hD hS hl
    have hw := u_X2_readsName_b2 hw
    refine lv_iload_n hx hb dX2_readsName_2 rfl (lv_at hl 2 rfl) ?_
    refine lv_aload_n hx hb dX2_readsName_3 rfl (lv_at hl 0 rfl) ?_
    refine va_get (D := K.1) (ci := 1) (v := .ref (K.2.1.1 v_names)) (C := RX2) (T := TX2) (N := 4) hx hb hts iwX2 hown hX.1 hP 0 rfl rfl 2 (by decide) (hts _ k_212) (fun _ h9 => h9) rfl dX2_readsName_4 ?_
    refine vCalli (K := K) (wr := [(q_h, .inr (1, [.ref q_h_steps, g_h_bytes, .ref (K.2.1.1 v_names), .int v_at])), (q_h_steps, .inr (2, [.ref q_h_steps_numbers, .int v_steps_many])), (q_h_steps_numbers, .inl (K.2.2.1, 50, .inl v_steps_numbers))]) (w1 := (fun _ => [])) (va_runV (As := []) (rest := [.int x2]) ⟨hx, hb, hml, hown, hts⟩ (c_J0_length_8abf5 l K  H.size  _ v_names hw.1 hw.2) (cwV 0 hts (vGoodV k_470 k_471 k_472 k_68 k_473) rfl rfl rfl (by decide +kernel) ⟨Nat.le_of_ble_eq_true rfl, Nat.le_of_ble_eq_true rfl⟩) ⟨vPre_blind, vk_recv hX.2.1.2.2.2.2.2.1 hw.1 hS, fun U hU hW => ⟨rfl, vPre_of hX hP hD hS [] rfl (by decide) U hU hW⟩⟩ rfl rfl hl.1 rfl (lv_room (Nat.le_of_ble_eq_true rfl)) dX2_readsName_7 ⟨Nat.zero_le _, Nat.zero_le _⟩) hX hP hD hS [] [0, 1, 2] rfl rfl (by decide) (by decide) (fun r_1 u H locs hw hP hD hS => ?_)
    have hP : va_P K.1 vwCl [(q_h, .inr (1, [.ref q_h_steps, g_h_bytes, .ref (K.2.1.1 v_names), .int v_at])), (q_h_steps, .inr (2, [.ref q_h_steps_numbers, .int v_steps_many])), (q_h_steps_numbers, .inl (K.2.2.1, 50, .inl v_steps_numbers))] H := hP.sub [0, 1, 2] rfl
    have hD : va_D A [(q_h, .inr (1, [.ref q_h_steps, g_h_bytes, .ref (K.2.1.1 v_names), .int v_at])), (q_h_steps, .inr (2, [.ref q_h_steps_numbers, .int v_steps_many])), (q_h_steps_numbers, .inl (K.2.2.1, 50, .inl v_steps_numbers))] := hD.sub [0, 1, 2] (by decide) rfl
    refine lv_icmp_ge (tgt := 56) hx hb dX2_readsName_10 (by decide) (fun c_2 => ?_) (fun c_2 => ?_)
    · have hw := hw.1 c_2
      refine lv_iconst (v := (0 : Int32)) hx hb dX2_readsName_56 (by decide) ?_
      exact W.zret (v := (0 : Int32)) hx hb hr vZ0 (fun t ht hW => ⟨⟨(0 : Int32), (v_at, v_steps_many, v_steps_numbers), rfl, ⟨Or.inl rfl, hw⟩, by rw [ht]; exact hP, va_K.moved hW.alike hX.1, hD⟩, hS.F ht⟩) hS.2.2 dX2_readsName_57 hlocks
    · have hw := hw.2 c_2
      refine lv_aload_n hx hb dX2_readsName_13 rfl (lv_at hl 0 rfl) ?_
      refine va_get (D := K.1) (ci := 1) (v := .ref (K.2.1.1 v_names)) (C := RX2) (T := TX2) (N := 4) hx hb hts iwX2 hown hX.1 hP 0 rfl rfl 2 (by decide) (hts _ k_212) (fun _ h9 => h9) rfl dX2_readsName_14 ?_
      refine lv_iload_n hx hb dX2_readsName_17 rfl (lv_at hl 2 rfl) ?_
      refine vCalli (K := K) (wr := [(q_h, .inr (1, [.ref q_h_steps, g_h_bytes, .ref (K.2.1.1 v_names), .int v_at])), (q_h_steps, .inr (2, [.ref q_h_steps_numbers, .int v_steps_many])), (q_h_steps_numbers, .inl (K.2.2.1, 50, .inl v_steps_numbers))]) (w1 := (fun _ => [])) (va_runV (As := [.int x2]) (rest := []) ⟨hx, hb, hml, hown, hts⟩ (c_J0_charAt_5068e l K  H.size x2 _ v_names hw.1 hw.2) (cwV 1 hts (vGoodV k_480 k_481 k_482 k_68 k_483) rfl rfl rfl (by decide +kernel) ⟨Nat.le_of_ble_eq_true rfl, Nat.le_of_ble_eq_true rfl⟩) ⟨vPre_blind, vk_recv hX.2.1.2.2.2.2.2.1 hw.1 hS, fun U hU hW => ⟨rfl, vPre_of hX hP hD hS [] rfl (by decide) U hU hW⟩⟩ rfl rfl hl.1 rfl (lv_room (Nat.le_of_ble_eq_true rfl)) dX2_readsName_18 ⟨Nat.zero_le _, Nat.zero_le _⟩) hX hP hD hS [] [0, 1, 2] rfl rfl (by decide) (by decide) (fun r_3 u H locs hw hP hD hS => ?_)
      have hP : va_P K.1 vwCl [(q_h, .inr (1, [.ref q_h_steps, g_h_bytes, .ref (K.2.1.1 v_names), .int v_at])), (q_h_steps, .inr (2, [.ref q_h_steps_numbers, .int v_steps_many])), (q_h_steps_numbers, .inl (K.2.2.1, 50, .inl v_steps_numbers))] H := hP.sub [0, 1, 2] rfl
      have hD : va_D A [(q_h, .inr (1, [.ref q_h_steps, g_h_bytes, .ref (K.2.1.1 v_names), .int v_at])), (q_h_steps, .inr (2, [.ref q_h_steps_numbers, .int v_steps_many])), (q_h_steps_numbers, .inl (K.2.2.1, 50, .inl v_steps_numbers))] := hD.sub [0, 1, 2] (by decide) rfl
      have hz_r_3 := hw.1
      have hw := hw.2
      refine lv_iload_n hx hb dX2_readsName_21 rfl (lv_at hl 1 rfl) ?_
      refine lv_icmp_ne (tgt := 50) hx hb dX2_readsName_22 (by decide) (fun c_4 => ?_) (fun c_4 => ?_)
      · have hw := hw.2 c_4
        refine lv_iinc (v := (x2 + (1 : Int32))) (lv' := [(2, .int (x2 + (1 : Int32))), (0, .ref q_h), (1, .int a1)]) hx hb dX2_readsName_50 hl (k := 2) rfl rfl (by decide) rfl (fun ls hl => ?_)
        refine lv_goto (tgt := 2) hx hb dX2_readsName_53 (by decide) ?_
        exact ih _ _ _ _ _ _ _ hw hP hD hS (lv_sub hl [1, 2, 0] rfl)
      · have hw := hw.1 c_4
        refine lv_aload_n hx hb dX2_readsName_25 rfl (lv_at hl 0 rfl) ?_
        refine va_get (D := K.1) (ci := 1) (v := .ref q_h_steps) (C := RX2) (T := TX2) (N := 4) hx hb hts iwX2 hown hX.1 hP 0 rfl rfl 0 (by decide) (hts _ k_209) (fun _ h9 => h9) rfl dX2_readsName_26 ?_
        refine lv_sipush (v := (10000 : Int32)) hx hb dX2_readsName_29 (by decide) ?_
        refine lv_iload_n hx hb dX2_readsName_32 rfl (lv_at hl 2 rfl) ?_
        refine lv_iadd hx hb dX2_readsName_33 ?_
        refine vCalli (K := K) (wr := [(q_h, .inr (1, [.ref q_h_steps, g_h_bytes, .ref (K.2.1.1 v_names), .int v_at]))]) (w1 := (fun (u : Int32 × (Nat → Int32)) => [(q_h_steps, .inr (2, [.ref q_h_steps_numbers, .int u.1])), (q_h_steps_numbers, .inl (K.2.2.1, 50, .inl u.2))])) (va_runV (As := [.int ((10000 : Int32) + x2)]) (rest := []) ⟨hx, hb, hml, hown, hts⟩ (c_X3_add l K q_h_steps q_h_steps_numbers 50 H.size ((10000 : Int32) + x2) v_steps_many v_steps_numbers _ hw) (cwV 1 hts (vGoodV k_465 k_421 k_422 k_60 k_423) rfl rfl rfl (by decide +kernel) ⟨Nat.le_of_ble_eq_true rfl, Nat.le_of_ble_eq_true rfl⟩) ⟨vPre_blind, va_recv hX.1 hP (ci := 2) (q0 := 1) rfl rfl, fun U hU hW => ⟨rfl, vPre_of hX hP hD hS [1, 2] rfl (by decide) U hU hW⟩⟩ rfl rfl hl.1 rfl (lv_room (Nat.le_of_ble_eq_true rfl)) dX2_readsName_34 ⟨Nat.zero_le _, Nat.zero_le _⟩) hX hP hD hS [1, 2] [0] rfl rfl (by decide) (by decide) (fun r_7 u H locs hw hP hD hS => ?_)
        obtain ⟨v_steps_many_5, v_steps_numbers_6⟩ := u
        have hP : va_P K.1 vwCl [(q_h, .inr (1, [.ref q_h_steps, g_h_bytes, .ref (K.2.1.1 v_names), .int v_at])), (q_h_steps, .inr (2, [.ref q_h_steps_numbers, .int v_steps_many_5])), (q_h_steps_numbers, .inl (K.2.2.1, 50, .inl v_steps_numbers_6))] H := hP.sub [0, 1, 2] rfl
        have hD : va_D A [(q_h, .inr (1, [.ref q_h_steps, g_h_bytes, .ref (K.2.1.1 v_names), .int v_at])), (q_h_steps, .inr (2, [.ref q_h_steps_numbers, .int v_steps_many_5])), (q_h_steps_numbers, .inl (K.2.2.1, 50, .inl v_steps_numbers_6))] := hD.sub [0, 1, 2] (by decide) rfl
        have hz_r_7 := hw.1
        have hw := hw.2
        refine lv_pop hx hb dX2_readsName_37 rfl ?_
        refine lv_aload_n hx hb dX2_readsName_38 rfl (lv_at hl 0 rfl) ?_
        refine lv_dup hx hb dX2_readsName_39 rfl ?_
        refine va_get (D := K.1) (ci := 1) (v := .int v_at) (C := RX2) (T := TX2) (N := 4) hx hb hts iwX2 hown hX.1 hP 0 rfl rfl 3 (by decide) (hts _ k_213) (fun _ h9 => h9) rfl dX2_readsName_40 ?_
        refine lv_iconst (v := (1 : Int32)) hx hb dX2_readsName_43 (by decide) ?_
        refine lv_iadd hx hb dX2_readsName_44 ?_
        refine va_put (D := K.1) (ci := 1) (v := .int (v_at + (1 : Int32))) (ty := .int) (C := RX2) (T := TX2) (N := 4) hx hb hts iwX2 tyX2 tyX2_ok nmX2 hown hX.1 hP hD hS 0 rfl rfl 3 (by decide) (hts _ k_213) (fun _ h9 => h9) rfl (by decide +kernel) rfl rfl (Nat.le_of_ble_eq_true rfl) dX2_readsName_45 (fun H locs hP hD hS => ?_)
        have hP : va_P K.1 vwCl [(q_h, .inr (1, [.ref q_h_steps, g_h_bytes, .ref (K.2.1.1 v_names), .int (v_at + (1 : Int32))])), (q_h_steps, .inr (2, [.ref q_h_steps_numbers, .int v_steps_many_5])), (q_h_steps_numbers, .inl (K.2.2.1, 50, .inl v_steps_numbers_6))] H := hP
        have hD : va_D A [(q_h, .inr (1, [.ref q_h_steps, g_h_bytes, .ref (K.2.1.1 v_names), .int (v_at + (1 : Int32))])), (q_h_steps, .inr (2, [.ref q_h_steps_numbers, .int v_steps_many_5])), (q_h_steps_numbers, .inl (K.2.2.1, 50, .inl v_steps_numbers_6))] := hD
        refine lv_iconst (v := (1 : Int32)) hx hb dX2_readsName_48 (by decide) ?_
        exact W.zret (v := (1 : Int32)) hx hb hr vZ1 (fun t ht hW => ⟨⟨(1 : Int32), ((v_at + (1 : Int32)), v_steps_many_5, v_steps_numbers_6), rfl, ⟨Or.inr rfl, hw⟩, by rw [ht]; exact hP, va_K.moved hW.alike hX.1, hD⟩, hS.F ht⟩) hS.2.2 dX2_readsName_49 hlocks
set_option maxHeartbeats 4000000 in
set_option maxRecDepth 100000 in
theorem c_X2_readsName (l : Launch) (K : vGl) (q_h q_h_steps q_h_steps_numbers : Nat)  (g_h_bytes : Value) (sz : Nat) (a1 : Int32) (v_names : Nat) (v_at : Int32) (v_steps_many : Int32) (v_steps_numbers : Nat → Int32) (post : Int32 → Int32 → Int32 → (Nat → Int32) → Prop) (hw : wp_X2_readsName a1 v_names v_at v_steps_many v_steps_numbers post) : Met l yX2_readsName (.code yX2_readsName cX2_readsName 3 (some .boolean) :: vT) rm_X2_readsName (va_Pc [.ref q_h, .int a1] (vPre K [(q_h, .inr (1, [.ref q_h_steps, g_h_bytes, .ref (K.2.1.1 v_names), .int v_at])), (q_h_steps, .inr (2, [.ref q_h_steps_numbers, .int v_steps_many])), (q_h_steps_numbers, .inl (K.2.2.1, 50, .inl v_steps_numbers))] sz)) (Qc_X2_readsName K q_h q_h_steps q_h_steps_numbers g_h_bytes v_names post (va_A [(q_h, .inr (1, [.ref q_h_steps, g_h_bytes, .ref (K.2.1.1 v_names), .int v_at])), (q_h_steps, .inr (2, [.ref q_h_steps_numbers, .int v_steps_many])), (q_h_steps_numbers, .inl (K.2.2.1, 50, .inl v_steps_numbers))] sz)) 0 0 (va_A [(q_h, .inr (1, [.ref q_h_steps, g_h_bytes, .ref (K.2.1.1 v_names), .int v_at])), (q_h_steps, .inr (2, [.ref q_h_steps_numbers, .int v_steps_many])), (q_h_steps_numbers, .inl (K.2.2.1, 50, .inl v_steps_numbers))] sz) := by
  unfold wp_X2_readsName at hw
  refine Met.ofW (cc := cX2_readsName) (maxL := 3) (ret := (some .boolean)) (by decide) rfl ?_
  intro p e s m args below meth c s₁ B hml hv
  obtain ⟨rfl, hsz, hP, hK, hD0, hG, hR⟩ := hv
  have hx := B.exec
  have hb := B.bytes
  have hr := B.returns
  have hts : ∀ w ∈ vT, w.before _ s = true := fun w h => atoms_spec (ws := .code yX2_readsName cX2_readsName 3 (some .boolean) :: vT) B.pre w (List.mem_cons_of_mem _ h)
  have hown : s.vm.findClass RX2 = some m.cls := findClass_of_methodNamed B.named
  have hlocks := B.notSynchronized
  subst hsz
  have hD := hD0.self (sz := s.heap.size)
  show W p l e (rm_X2_readsName) s m _ below meth c s.heap [] 0 0 _ _
  generalize hAe : va_A [(q_h, .inr (1, [.ref q_h_steps, g_h_bytes, .ref (K.2.1.1 v_names), .int v_at])), (q_h_steps, .inr (2, [.ref q_h_steps_numbers, .int v_steps_many])), (q_h_steps_numbers, .inl (K.2.2.1, 50, .inl v_steps_numbers))] s.heap.size = A at hD hG ⊢
  have hX : vX K A s := ⟨hK, hG, hR, fun q h => by rw [← hAe]; exact Or.inr h⟩
  have hS : va_S A s.heap s.heap [] := va_S.rf
  have F : vFx p s m ([.ref q_h, .int a1] : List Value).toArray meth c cX2_readsName RX2 3 (some .boolean) := ⟨hx, hb, hml, hown, hts, hr, hlocks⟩
  have hl := lv_entry ([.ref q_h, .int a1]) (n := 3) (Nat.le_of_ble_eq_true rfl)
  rw [lg_entry_eq]
  generalize (lg_sl ([.ref q_h, .int a1]) ++ List.replicate (3 - (lg_sl ([.ref q_h, .int a1])).length) Slot.unset).toArray = ls at hl ⊢
  have hl : lv_has ls 3 [(0, .ref q_h), (1, .int a1)] := hl
  obtain ⟨H, hHe⟩ : ∃ H, H = s.heap := ⟨_, rfl⟩
  have hS : va_S A s.heap H [] := by rw [hHe]; exact hS
  have hP : va_P K.1 vwCl [(q_h, .inr (1, [.ref q_h_steps, g_h_bytes, .ref (K.2.1.1 v_names), .int v_at])), (q_h_steps, .inr (2, [.ref q_h_steps_numbers, .int v_steps_many])), (q_h_steps_numbers, .inl (K.2.2.1, 50, .inl v_steps_numbers))] H := by rw [hHe]; exact hP
  refine vWH hHe ?_
  refine lv_iconst (v := (0 : Int32)) hx hb dX2_readsName_0 (by decide) ?_
  refine lv_istore_n (lv' := [(2, .int (0 : Int32)), (0, .ref q_h), (1, .int a1)]) hx hb dX2_readsName_1 rfl hl (by decide) rfl (fun ls hl => ?_)
  obtain ⟨k, hw⟩ := hw
  exact t_X2_readsName_b2 F hX k _ _ _ _ _ _ _ hw hP hD hS (lv_sub hl [1, 2, 0] rfl)
/-! OvenRings$Reader.levelOf(I)I -/
def wp_X2_levelOf (a1 : Int32) (post : Int32 → Prop) : Prop := (a1 = (37 : Int32) → (post (4 : Int32))) ∧ (a1 = (38 : Int32) → (post (1 : Int32))) ∧ (a1 = (42 : Int32) → (post (4 : Int32))) ∧ (a1 = (43 : Int32) → (post (3 : Int32))) ∧ (a1 = (45 : Int32) → (post (3 : Int32))) ∧ (a1 = (47 : Int32) → (post (4 : Int32))) ∧ (a1 = (60 : Int32) → (post (2 : Int32))) ∧ (a1 = (61 : Int32) → (post (2 : Int32))) ∧ (a1 = (62 : Int32) → (post (2 : Int32))) ∧ (a1 = (124 : Int32) → (post (0 : Int32))) ∧ (¬ a1 = (37 : Int32) → ¬ a1 = (38 : Int32) → ¬ a1 = (42 : Int32) → ¬ a1 = (43 : Int32) → ¬ a1 = (45 : Int32) → ¬ a1 = (47 : Int32) → ¬ a1 = (60 : Int32) → ¬ a1 = (61 : Int32) → ¬ a1 = (62 : Int32) → ¬ a1 = (124 : Int32) → (post (-1 : Int32)))
abbrev rm_X2_levelOf : Room := { frames := 0, cells := 0, slots := 0, locals := 0 }
abbrev Qc_X2_levelOf (K : vGl)     (post : Int32 → Prop) (A : Nat → Prop) : Array Value → State → Outcome → State → Prop := va_Qi (fun (r : Int32) (u : Unit) => post r ) (fun u t => vB K A [] t) A
set_option maxHeartbeats 4000000 in
set_option maxRecDepth 100000 in
theorem c_X2_levelOf (l : Launch) (K : vGl)    (sz : Nat) (a1 : Int32) (post : Int32 → Prop) (hw : wp_X2_levelOf a1 post) : Met l yX2_levelOf (.code yX2_levelOf cX2_levelOf 1 (some .int) :: vT) rm_X2_levelOf (va_Pc [.int a1] (vPre K [] sz)) (Qc_X2_levelOf K  post (va_A [] sz)) 0 0 (va_A [] sz) := by
  unfold wp_X2_levelOf at hw
  refine Met.ofW (cc := cX2_levelOf) (maxL := 1) (ret := (some .int)) (by decide) rfl ?_
  intro p e s m args below meth c s₁ B hml hv
  obtain ⟨rfl, hsz, hP, hK, hD0, hG, hR⟩ := hv
  have hx := B.exec
  have hb := B.bytes
  have hr := B.returns
  have hts : ∀ w ∈ vT, w.before _ s = true := fun w h => atoms_spec (ws := .code yX2_levelOf cX2_levelOf 1 (some .int) :: vT) B.pre w (List.mem_cons_of_mem _ h)
  have hown : s.vm.findClass RX2 = some m.cls := findClass_of_methodNamed B.named
  have hlocks := B.notSynchronized
  subst hsz
  have hD := hD0.self (sz := s.heap.size)
  show W p l e (rm_X2_levelOf) s m _ below meth c s.heap [] 0 0 _ _
  generalize hAe : va_A [] s.heap.size = A at hD hG ⊢
  have hX : vX K A s := ⟨hK, hG, hR, fun q h => by rw [← hAe]; exact Or.inr h⟩
  have hS : va_S A s.heap s.heap [] := va_S.rf
  have F : vFx p s m ([.int a1] : List Value).toArray meth c cX2_levelOf RX2 1 (some .int) := ⟨hx, hb, hml, hown, hts, hr, hlocks⟩
  have hl := lv_entry ([.int a1]) (n := 1) (Nat.le_of_ble_eq_true rfl)
  rw [lg_entry_eq]
  generalize (lg_sl ([.int a1]) ++ List.replicate (1 - (lg_sl ([.int a1])).length) Slot.unset).toArray = ls at hl ⊢
  have hl : lv_has ls 1 [(0, .int a1)] := hl
  obtain ⟨H, hHe⟩ : ∃ H, H = s.heap := ⟨_, rfl⟩
  have hS : va_S A s.heap H [] := by rw [hHe]; exact hS
  have hP : va_P K.1 vwCl [] H := by rw [hHe]; exact hP
  refine vWH hHe ?_
  refine lv_iload_n hx hb dX2_levelOf_0 rfl (lv_at hl 0 rfl) ?_
  rcases hw with ⟨hw0, hw1, hw2, hw3, hw4, hw5, hw6, hw7, hw8, hw9, hw10⟩
  rcases Classical.em (a1 = (37 : Int32)) with c_1 | c_1
  · refine lv_lookup (off := 99) (tgt := 100) hx hb dX2_levelOf_1 (by decide) (lkp c_1 (by decide +kernel)) (by decide) ?_
    have hw := hw0 c_1
    refine lv_iconst (v := (4 : Int32)) hx hb dX2_levelOf_100 (by decide) ?_
    exact W.iret (v := (4 : Int32)) hx hb hr (fun t ht hW => ⟨⟨(4 : Int32), (), rfl, hw, by rw [ht]; exact hP, va_K.moved hW.alike hX.1, hD⟩, hS.F ht⟩) hS.2.2 dX2_levelOf_101 hlocks
  rcases Classical.em (a1 = (38 : Int32)) with c_2 | c_2
  · refine lv_lookup (off := 93) (tgt := 94) hx hb dX2_levelOf_1 (by decide) (lkp c_2 (by decide +kernel)) (by decide) ?_
    have hw := hw1 c_2
    refine lv_iconst (v := (1 : Int32)) hx hb dX2_levelOf_94 (by decide) ?_
    exact W.iret (v := (1 : Int32)) hx hb hr (fun t ht hW => ⟨⟨(1 : Int32), (), rfl, hw, by rw [ht]; exact hP, va_K.moved hW.alike hX.1, hD⟩, hS.F ht⟩) hS.2.2 dX2_levelOf_95 hlocks
  rcases Classical.em (a1 = (42 : Int32)) with c_3 | c_3
  · refine lv_lookup (off := 99) (tgt := 100) hx hb dX2_levelOf_1 (by decide) (lkp c_3 (by decide +kernel)) (by decide) ?_
    have hw := hw2 c_3
    refine lv_iconst (v := (4 : Int32)) hx hb dX2_levelOf_100 (by decide) ?_
    exact W.iret (v := (4 : Int32)) hx hb hr (fun t ht hW => ⟨⟨(4 : Int32), (), rfl, hw, by rw [ht]; exact hP, va_K.moved hW.alike hX.1, hD⟩, hS.F ht⟩) hS.2.2 dX2_levelOf_101 hlocks
  rcases Classical.em (a1 = (43 : Int32)) with c_4 | c_4
  · refine lv_lookup (off := 97) (tgt := 98) hx hb dX2_levelOf_1 (by decide) (lkp c_4 (by decide +kernel)) (by decide) ?_
    have hw := hw3 c_4
    refine lv_iconst (v := (3 : Int32)) hx hb dX2_levelOf_98 (by decide) ?_
    exact W.iret (v := (3 : Int32)) hx hb hr (fun t ht hW => ⟨⟨(3 : Int32), (), rfl, hw, by rw [ht]; exact hP, va_K.moved hW.alike hX.1, hD⟩, hS.F ht⟩) hS.2.2 dX2_levelOf_99 hlocks
  rcases Classical.em (a1 = (45 : Int32)) with c_5 | c_5
  · refine lv_lookup (off := 97) (tgt := 98) hx hb dX2_levelOf_1 (by decide) (lkp c_5 (by decide +kernel)) (by decide) ?_
    have hw := hw4 c_5
    refine lv_iconst (v := (3 : Int32)) hx hb dX2_levelOf_98 (by decide) ?_
    exact W.iret (v := (3 : Int32)) hx hb hr (fun t ht hW => ⟨⟨(3 : Int32), (), rfl, hw, by rw [ht]; exact hP, va_K.moved hW.alike hX.1, hD⟩, hS.F ht⟩) hS.2.2 dX2_levelOf_99 hlocks
  rcases Classical.em (a1 = (47 : Int32)) with c_6 | c_6
  · refine lv_lookup (off := 99) (tgt := 100) hx hb dX2_levelOf_1 (by decide) (lkp c_6 (by decide +kernel)) (by decide) ?_
    have hw := hw5 c_6
    refine lv_iconst (v := (4 : Int32)) hx hb dX2_levelOf_100 (by decide) ?_
    exact W.iret (v := (4 : Int32)) hx hb hr (fun t ht hW => ⟨⟨(4 : Int32), (), rfl, hw, by rw [ht]; exact hP, va_K.moved hW.alike hX.1, hD⟩, hS.F ht⟩) hS.2.2 dX2_levelOf_101 hlocks
  rcases Classical.em (a1 = (60 : Int32)) with c_7 | c_7
  · refine lv_lookup (off := 95) (tgt := 96) hx hb dX2_levelOf_1 (by decide) (lkp c_7 (by decide +kernel)) (by decide) ?_
    have hw := hw6 c_7
    refine lv_iconst (v := (2 : Int32)) hx hb dX2_levelOf_96 (by decide) ?_
    exact W.iret (v := (2 : Int32)) hx hb hr (fun t ht hW => ⟨⟨(2 : Int32), (), rfl, hw, by rw [ht]; exact hP, va_K.moved hW.alike hX.1, hD⟩, hS.F ht⟩) hS.2.2 dX2_levelOf_97 hlocks
  rcases Classical.em (a1 = (61 : Int32)) with c_8 | c_8
  · refine lv_lookup (off := 95) (tgt := 96) hx hb dX2_levelOf_1 (by decide) (lkp c_8 (by decide +kernel)) (by decide) ?_
    have hw := hw7 c_8
    refine lv_iconst (v := (2 : Int32)) hx hb dX2_levelOf_96 (by decide) ?_
    exact W.iret (v := (2 : Int32)) hx hb hr (fun t ht hW => ⟨⟨(2 : Int32), (), rfl, hw, by rw [ht]; exact hP, va_K.moved hW.alike hX.1, hD⟩, hS.F ht⟩) hS.2.2 dX2_levelOf_97 hlocks
  rcases Classical.em (a1 = (62 : Int32)) with c_9 | c_9
  · refine lv_lookup (off := 95) (tgt := 96) hx hb dX2_levelOf_1 (by decide) (lkp c_9 (by decide +kernel)) (by decide) ?_
    have hw := hw8 c_9
    refine lv_iconst (v := (2 : Int32)) hx hb dX2_levelOf_96 (by decide) ?_
    exact W.iret (v := (2 : Int32)) hx hb hr (fun t ht hW => ⟨⟨(2 : Int32), (), rfl, hw, by rw [ht]; exact hP, va_K.moved hW.alike hX.1, hD⟩, hS.F ht⟩) hS.2.2 dX2_levelOf_97 hlocks
  rcases Classical.em (a1 = (124 : Int32)) with c_10 | c_10
  · refine lv_lookup (off := 91) (tgt := 92) hx hb dX2_levelOf_1 (by decide) (lkp c_10 (by decide +kernel)) (by decide) ?_
    have hw := hw9 c_10
    refine lv_iconst (v := (0 : Int32)) hx hb dX2_levelOf_92 (by decide) ?_
    exact W.iret (v := (0 : Int32)) hx hb hr (fun t ht hW => ⟨⟨(0 : Int32), (), rfl, hw, by rw [ht]; exact hP, va_K.moved hW.alike hX.1, hD⟩, hS.F ht⟩) hS.2.2 dX2_levelOf_93 hlocks
  refine lv_lookup (off := 101) (tgt := 102) hx hb dX2_levelOf_1 (by decide) (by have i0 := vI_ne (z := 37) c_1 (by decide +kernel); have i1 := vI_ne (z := 38) c_2 (by decide +kernel); have i2 := vI_ne (z := 42) c_3 (by decide +kernel); have i3 := vI_ne (z := 43) c_4 (by decide +kernel); have i4 := vI_ne (z := 45) c_5 (by decide +kernel); have i5 := vI_ne (z := 47) c_6 (by decide +kernel); have i6 := vI_ne (z := 60) c_7 (by decide +kernel); have i7 := vI_ne (z := 61) c_8 (by decide +kernel); have i8 := vI_ne (z := 62) c_9 (by decide +kernel); have i9 := vI_ne (z := 124) c_10 (by decide +kernel); simp [Op.lookupswitch.offset, Ne.symm i0, i0, Ne.symm i1, i1, Ne.symm i2, i2, Ne.symm i3, i3, Ne.symm i4, i4, Ne.symm i5, i5, Ne.symm i6, i6, Ne.symm i7, i7, Ne.symm i8, i8, Ne.symm i9, i9]) (by decide) ?_
  have hw := hw10 c_1 c_2 c_3 c_4 c_5 c_6 c_7 c_8 c_9 c_10
  refine lv_iconst (v := (-1 : Int32)) hx hb dX2_levelOf_102 (by decide) ?_
  exact W.iret (v := (-1 : Int32)) hx hb hr (fun t ht hW => ⟨⟨(-1 : Int32), (), rfl, hw, by rw [ht]; exact hP, va_K.moved hW.alike hX.1, hD⟩, hS.F ht⟩) hS.2.2 dX2_levelOf_103 hlocks
/-! OvenRings$Reader.readsLevel(II)Z -/
def wp_X2_readsLevel_b39 (G : Nat → Int32 → Int32 → Nat → Int32 → Int32 → Int32 → (Nat → Int32) → (Nat → Int32) → (Int32 → Int32 → Int32 → (Nat → Int32) → Prop) → Prop) (a1 : Int32) (a2 : Int32) (v_names : Nat) (v_bytes_many : Int32) (v_bytes_numbers : Nat → Int32)  (post : Int32 → Int32 → Int32 → (Nat → Int32) → Prop) : Nat → Int32 → Int32 → Int32 → Int32 → (Nat → Int32) → Prop
  | 0, _, _, _, _, _ => False
  | n + 1, x3, x4, v_at, v_steps_many, v_steps_numbers => (x3 ≤ x4 → (post (1 : Int32) v_at v_steps_many v_steps_numbers)) ∧ (¬ x3 ≤ x4 → (wp_X2_next v_at v_bytes_many v_bytes_numbers (fun r_9 => wp_X2_levelOf r_9 (fun r_10 => (r_10 = a1 → (wp_X2_next v_at v_bytes_many v_bytes_numbers (fun r_12 => G 0 (a1 + (1 : Int32)) a2 v_names (v_at + (1 : Int32)) v_steps_many v_bytes_many v_steps_numbers v_bytes_numbers (fun r_16 v_at_13 v_steps_many_14 v_steps_numbers_15 => (r_16 = 0 → (post (0 : Int32) v_at_13 v_steps_many_14 v_steps_numbers_15)) ∧ (¬ r_16 = 0 → (wp_X3_add 50 ((20000 : Int32) + r_12) v_steps_many_14 v_steps_numbers_15 (fun r_20 v_steps_many_18 v_steps_numbers_19 => wp_X2_readsLevel_b39 G a1 a2 v_names v_bytes_many v_bytes_numbers post n x3 (x4 + (1 : Int32)) v_at_13 v_steps_many_18 v_steps_numbers_19))))))) ∧ (¬ r_10 = a1 → (post (1 : Int32) v_at v_steps_many v_steps_numbers))))))
theorem u_X2_readsLevel_b39 {G : Nat → Int32 → Int32 → Nat → Int32 → Int32 → Int32 → (Nat → Int32) → (Nat → Int32) → (Int32 → Int32 → Int32 → (Nat → Int32) → Prop) → Prop} {a1 : Int32} {a2 : Int32} {v_names : Nat} {v_bytes_many : Int32} {v_bytes_numbers : Nat → Int32}  {post : Int32 → Int32 → Int32 → (Nat → Int32) → Prop} {n : Nat} {x3 : Int32} {x4 : Int32} {v_at : Int32} {v_steps_many : Int32} {v_steps_numbers : Nat → Int32} (h : wp_X2_readsLevel_b39 G a1 a2 v_names v_bytes_many v_bytes_numbers post (n + 1) x3 x4 v_at v_steps_many v_steps_numbers) : (x3 ≤ x4 → (post (1 : Int32) v_at v_steps_many v_steps_numbers)) ∧ (¬ x3 ≤ x4 → (wp_X2_next v_at v_bytes_many v_bytes_numbers (fun r_9 => wp_X2_levelOf r_9 (fun r_10 => (r_10 = a1 → (wp_X2_next v_at v_bytes_many v_bytes_numbers (fun r_12 => G 0 (a1 + (1 : Int32)) a2 v_names (v_at + (1 : Int32)) v_steps_many v_bytes_many v_steps_numbers v_bytes_numbers (fun r_16 v_at_13 v_steps_many_14 v_steps_numbers_15 => (r_16 = 0 → (post (0 : Int32) v_at_13 v_steps_many_14 v_steps_numbers_15)) ∧ (¬ r_16 = 0 → (wp_X3_add 50 ((20000 : Int32) + r_12) v_steps_many_14 v_steps_numbers_15 (fun r_20 v_steps_many_18 v_steps_numbers_19 => wp_X2_readsLevel_b39 G a1 a2 v_names v_bytes_many v_bytes_numbers post n x3 (x4 + (1 : Int32)) v_at_13 v_steps_many_18 v_steps_numbers_19))))))) ∧ (¬ r_10 = a1 → (post (1 : Int32) v_at v_steps_many v_steps_numbers)))))) := h
/-! OvenRings$Reader.readsPart(I)Z -/
def wp_X2_readsPart_b41 (G : Nat → Int32 → Int32 → Nat → Int32 → Int32 → Int32 → (Nat → Int32) → (Nat → Int32) → (Int32 → Int32 → Int32 → (Nat → Int32) → Prop) → Prop) (a1 : Int32) (v_names : Nat) (v_bytes_many : Int32) (v_bytes_numbers : Nat → Int32)  (post : Int32 → Int32 → Int32 → (Nat → Int32) → Prop) (x2 : Int32) (v_at : Int32) (v_steps_many : Int32) (v_steps_numbers : Nat → Int32) : Prop := (a1 < (5 : Int32) → ((x2 = (33 : Int32) → (G 1 (a1 + (1 : Int32)) (0 : Int32) v_names (v_at + (1 : Int32)) v_steps_many v_bytes_many v_steps_numbers v_bytes_numbers (fun r_16 v_at_13 v_steps_many_14 v_steps_numbers_15 => (r_16 = 0 → (post (0 : Int32) v_at_13 v_steps_many_14 v_steps_numbers_15)) ∧ (¬ r_16 = 0 → (wp_X3_add 50 (20033 : Int32) v_steps_many_14 v_steps_numbers_15 (fun r_20 v_steps_many_18 v_steps_numbers_19 => (r_20 = 0 → (post (0 : Int32) v_at_13 v_steps_many_18 v_steps_numbers_19)) ∧ (¬ r_20 = 0 → (post (1 : Int32) v_at_13 v_steps_many_18 v_steps_numbers_19)))))))) ∧ (¬ x2 = (33 : Int32) → (G 0 (0 : Int32) (a1 + (1 : Int32)) v_names (v_at + (1 : Int32)) v_steps_many v_bytes_many v_steps_numbers v_bytes_numbers (fun r_9 v_at_6 v_steps_many_7 v_steps_numbers_8 => (r_9 = 0 → (post (0 : Int32) v_at_6 v_steps_many_7 v_steps_numbers_8)) ∧ (¬ r_9 = 0 → (wp_X2_next v_at_6 v_bytes_many v_bytes_numbers (fun r_11 => (r_11 = (41 : Int32) → (post (1 : Int32) (v_at_6 + (1 : Int32)) v_steps_many_7 v_steps_numbers_8)) ∧ (¬ r_11 = (41 : Int32) → (post (0 : Int32) v_at_6 v_steps_many_7 v_steps_numbers_8)))))))))) ∧ (¬ a1 < (5 : Int32) → (post (0 : Int32) v_at v_steps_many v_steps_numbers))
def wpg_X2_readsLevel : Nat → Nat → Int32 → Int32 → Nat → Int32 → Int32 → Int32 → (Nat → Int32) → (Nat → Int32) → (Int32 → Int32 → Int32 → (Nat → Int32) → Prop) → Prop
  | 0, _, _, _, _, _, _, _, _, _, _ => False
  | d + 1, 0, a1, a2, v_names, v_at, v_steps_many, v_bytes_many, v_steps_numbers, v_bytes_numbers, post => (a1 < (5 : Int32) → ((wpg_X2_readsLevel d) 0 (a1 + (1 : Int32)) a2 v_names v_at v_steps_many v_bytes_many v_steps_numbers v_bytes_numbers (fun r_5 v_at_2 v_steps_many_3 v_steps_numbers_4 => (r_5 = 0 → (post (0 : Int32) v_at_2 v_steps_many_3 v_steps_numbers_4)) ∧ (¬ r_5 = 0 → ((a1 = (2 : Int32) → (∃ k, wp_X2_readsLevel_b39 (wpg_X2_readsLevel d) a1 a2 v_names v_bytes_many v_bytes_numbers post k (1 : Int32) (0 : Int32) v_at_2 v_steps_many_3 v_steps_numbers_4)) ∧ (¬ a1 = (2 : Int32) → (∃ k, wp_X2_readsLevel_b39 (wpg_X2_readsLevel d) a1 a2 v_names v_bytes_many v_bytes_numbers post k (50 : Int32) (0 : Int32) v_at_2 v_steps_many_3 v_steps_numbers_4))))))) ∧ (¬ a1 < (5 : Int32) → ((wpg_X2_readsLevel d) 1 a2 (0 : Int32) v_names v_at v_steps_many v_bytes_many v_steps_numbers v_bytes_numbers (fun r_24 v_at_21 v_steps_many_22 v_steps_numbers_23 => post r_24 v_at_21 v_steps_many_22 v_steps_numbers_23)))
  | d + 1, _, a1, a2, v_names, v_at, v_steps_many, v_bytes_many, v_steps_numbers, v_bytes_numbers, post => wp_X2_next v_at v_bytes_many v_bytes_numbers (fun r_1 => (r_1 < (48 : Int32) → ((r_1 = (33 : Int32) → (wp_X2_readsPart_b41 (wpg_X2_readsLevel d) a1 v_names v_bytes_many v_bytes_numbers post r_1 v_at v_steps_many v_steps_numbers)) ∧ (¬ r_1 = (33 : Int32) → ((r_1 = (40 : Int32) → (wp_X2_readsPart_b41 (wpg_X2_readsLevel d) a1 v_names v_bytes_many v_bytes_numbers post r_1 v_at v_steps_many v_steps_numbers)) ∧ (¬ r_1 = (40 : Int32) → (wp_X2_readsName r_1 v_names v_at v_steps_many v_steps_numbers (fun r_26 v_at_23 v_steps_many_24 v_steps_numbers_25 => post r_26 v_at_23 v_steps_many_24 v_steps_numbers_25))))))) ∧ (¬ r_1 < (48 : Int32) → (((57 : Int32) < r_1 → ((r_1 = (33 : Int32) → (wp_X2_readsPart_b41 (wpg_X2_readsLevel d) a1 v_names v_bytes_many v_bytes_numbers post r_1 v_at v_steps_many v_steps_numbers)) ∧ (¬ r_1 = (33 : Int32) → ((r_1 = (40 : Int32) → (wp_X2_readsPart_b41 (wpg_X2_readsLevel d) a1 v_names v_bytes_many v_bytes_numbers post r_1 v_at v_steps_many v_steps_numbers)) ∧ (¬ r_1 = (40 : Int32) → (wp_X2_readsName r_1 v_names v_at v_steps_many v_steps_numbers (fun r_33 v_at_30 v_steps_many_31 v_steps_numbers_32 => post r_33 v_at_30 v_steps_many_31 v_steps_numbers_32))))))) ∧ (¬ (57 : Int32) < r_1 → (wp_X2_readNumber v_at v_steps_many v_bytes_many v_steps_numbers v_bytes_numbers (fun v_at_34 v_steps_many_35 v_steps_numbers_36 => post (1 : Int32) v_at_34 v_steps_many_35 v_steps_numbers_36))))))
abbrev rmg_X2_readsLevel (d : Nat) : Room := { frames := 5 + d, cells := 0, slots := 0, locals := 107 + 25 * d }
theorem ug_X2_readsLevel {d : Nat} {a1 : Int32} {a2 : Int32} {v_names : Nat} {v_at : Int32} {v_steps_many : Int32} {v_bytes_many : Int32} {v_steps_numbers : Nat → Int32} {v_bytes_numbers : Nat → Int32} {post : Int32 → Int32 → Int32 → (Nat → Int32) → Prop} (h : wpg_X2_readsLevel (d + 1) 0 a1 a2 v_names v_at v_steps_many v_bytes_many v_steps_numbers v_bytes_numbers post) : (a1 < (5 : Int32) → ((wpg_X2_readsLevel d) 0 (a1 + (1 : Int32)) a2 v_names v_at v_steps_many v_bytes_many v_steps_numbers v_bytes_numbers (fun r_5 v_at_2 v_steps_many_3 v_steps_numbers_4 => (r_5 = 0 → (post (0 : Int32) v_at_2 v_steps_many_3 v_steps_numbers_4)) ∧ (¬ r_5 = 0 → ((a1 = (2 : Int32) → (∃ k, wp_X2_readsLevel_b39 (wpg_X2_readsLevel d) a1 a2 v_names v_bytes_many v_bytes_numbers post k (1 : Int32) (0 : Int32) v_at_2 v_steps_many_3 v_steps_numbers_4)) ∧ (¬ a1 = (2 : Int32) → (∃ k, wp_X2_readsLevel_b39 (wpg_X2_readsLevel d) a1 a2 v_names v_bytes_many v_bytes_numbers post k (50 : Int32) (0 : Int32) v_at_2 v_steps_many_3 v_steps_numbers_4))))))) ∧ (¬ a1 < (5 : Int32) → ((wpg_X2_readsLevel d) 1 a2 (0 : Int32) v_names v_at v_steps_many v_bytes_many v_steps_numbers v_bytes_numbers (fun r_24 v_at_21 v_steps_many_22 v_steps_numbers_23 => post r_24 v_at_21 v_steps_many_22 v_steps_numbers_23))) := h
theorem ug_X2_readsPart {d : Nat} {a1 : Int32} {a2 : Int32} {v_names : Nat} {v_at : Int32} {v_steps_many : Int32} {v_bytes_many : Int32} {v_steps_numbers : Nat → Int32} {v_bytes_numbers : Nat → Int32} {post : Int32 → Int32 → Int32 → (Nat → Int32) → Prop} (h : wpg_X2_readsLevel (d + 1) 1 a1 a2 v_names v_at v_steps_many v_bytes_many v_steps_numbers v_bytes_numbers post) : wp_X2_next v_at v_bytes_many v_bytes_numbers (fun r_1 => (r_1 < (48 : Int32) → ((r_1 = (33 : Int32) → (wp_X2_readsPart_b41 (wpg_X2_readsLevel d) a1 v_names v_bytes_many v_bytes_numbers post r_1 v_at v_steps_many v_steps_numbers)) ∧ (¬ r_1 = (33 : Int32) → ((r_1 = (40 : Int32) → (wp_X2_readsPart_b41 (wpg_X2_readsLevel d) a1 v_names v_bytes_many v_bytes_numbers post r_1 v_at v_steps_many v_steps_numbers)) ∧ (¬ r_1 = (40 : Int32) → (wp_X2_readsName r_1 v_names v_at v_steps_many v_steps_numbers (fun r_26 v_at_23 v_steps_many_24 v_steps_numbers_25 => post r_26 v_at_23 v_steps_many_24 v_steps_numbers_25))))))) ∧ (¬ r_1 < (48 : Int32) → (((57 : Int32) < r_1 → ((r_1 = (33 : Int32) → (wp_X2_readsPart_b41 (wpg_X2_readsLevel d) a1 v_names v_bytes_many v_bytes_numbers post r_1 v_at v_steps_many v_steps_numbers)) ∧ (¬ r_1 = (33 : Int32) → ((r_1 = (40 : Int32) → (wp_X2_readsPart_b41 (wpg_X2_readsLevel d) a1 v_names v_bytes_many v_bytes_numbers post r_1 v_at v_steps_many v_steps_numbers)) ∧ (¬ r_1 = (40 : Int32) → (wp_X2_readsName r_1 v_names v_at v_steps_many v_steps_numbers (fun r_33 v_at_30 v_steps_many_31 v_steps_numbers_32 => post r_33 v_at_30 v_steps_many_31 v_steps_numbers_32))))))) ∧ (¬ (57 : Int32) < r_1 → (wp_X2_readNumber v_at v_steps_many v_bytes_many v_steps_numbers v_bytes_numbers (fun v_at_34 v_steps_many_35 v_steps_numbers_36 => post (1 : Int32) v_at_34 v_steps_many_35 v_steps_numbers_36)))))) := h
abbrev Qc_X2_readsLevel (K : vGl) (q_h q_h_steps q_h_bytes q_h_steps_numbers q_h_bytes_numbers : Nat)   (v_names : Nat) (v_bytes_many : Int32) (v_bytes_numbers : Nat → Int32) (post : Int32 → Int32 → Int32 → (Nat → Int32) → Prop) (A : Nat → Prop) : Array Value → State → Outcome → State → Prop := va_Qi (fun (r : Int32) (u : Int32 × Int32 × (Nat → Int32)) => (r = 0 ∨ r = 1) ∧ post r u.1 u.2.1 u.2.2) (fun u t => vB K A [(q_h, .inr (1, [.ref q_h_steps, .ref q_h_bytes, .ref (K.2.1.1 v_names), .int u.1])), (q_h_steps, .inr (2, [.ref q_h_steps_numbers, .int u.2.1])), (q_h_bytes, .inr (2, [.ref q_h_bytes_numbers, .int v_bytes_many])), (q_h_steps_numbers, .inl (K.2.2.1, 50, .inl u.2.2)), (q_h_bytes_numbers, .inl (K.2.2.1, 50, .inl v_bytes_numbers))] t) A
abbrev Qc_X2_readsPart (K : vGl) (q_h q_h_steps q_h_bytes q_h_steps_numbers q_h_bytes_numbers : Nat)   (v_names : Nat) (v_bytes_many : Int32) (v_bytes_numbers : Nat → Int32) (post : Int32 → Int32 → Int32 → (Nat → Int32) → Prop) (A : Nat → Prop) : Array Value → State → Outcome → State → Prop := va_Qi (fun (r : Int32) (u : Int32 × Int32 × (Nat → Int32)) => (r = 0 ∨ r = 1) ∧ post r u.1 u.2.1 u.2.2) (fun u t => vB K A [(q_h, .inr (1, [.ref q_h_steps, .ref q_h_bytes, .ref (K.2.1.1 v_names), .int u.1])), (q_h_steps, .inr (2, [.ref q_h_steps_numbers, .int u.2.1])), (q_h_bytes, .inr (2, [.ref q_h_bytes_numbers, .int v_bytes_many])), (q_h_steps_numbers, .inl (K.2.2.1, 50, .inl u.2.2)), (q_h_bytes_numbers, .inl (K.2.2.1, 50, .inl v_bytes_numbers))] t) A
def IH_X2_readsLevel (l : Launch) (d : Nat) : Prop := (∀ (K : vGl) (q_h q_h_steps q_h_bytes q_h_steps_numbers q_h_bytes_numbers : Nat)  (sz : Nat) (a1 : Int32) (a2 : Int32) (v_names : Nat) (v_at : Int32) (v_steps_many : Int32) (v_bytes_many : Int32) (v_steps_numbers : Nat → Int32) (v_bytes_numbers : Nat → Int32) (post : Int32 → Int32 → Int32 → (Nat → Int32) → Prop) (hw : wpg_X2_readsLevel d 0 a1 a2 v_names v_at v_steps_many v_bytes_many v_steps_numbers v_bytes_numbers post), Met l yX2_readsLevel (.code yX2_readsLevel cX2_readsLevel 6 (some .boolean) :: vT) (rmg_X2_readsLevel d) (va_Pc [.ref q_h, .int a1, .int a2] (vPre K [(q_h, .inr (1, [.ref q_h_steps, .ref q_h_bytes, .ref (K.2.1.1 v_names), .int v_at])), (q_h_steps, .inr (2, [.ref q_h_steps_numbers, .int v_steps_many])), (q_h_bytes, .inr (2, [.ref q_h_bytes_numbers, .int v_bytes_many])), (q_h_steps_numbers, .inl (K.2.2.1, 50, .inl v_steps_numbers)), (q_h_bytes_numbers, .inl (K.2.2.1, 50, .inl v_bytes_numbers))] sz)) (Qc_X2_readsLevel K q_h q_h_steps q_h_bytes q_h_steps_numbers q_h_bytes_numbers v_names v_bytes_many v_bytes_numbers post (va_A [(q_h, .inr (1, [.ref q_h_steps, .ref q_h_bytes, .ref (K.2.1.1 v_names), .int v_at])), (q_h_steps, .inr (2, [.ref q_h_steps_numbers, .int v_steps_many])), (q_h_bytes, .inr (2, [.ref q_h_bytes_numbers, .int v_bytes_many])), (q_h_steps_numbers, .inl (K.2.2.1, 50, .inl v_steps_numbers)), (q_h_bytes_numbers, .inl (K.2.2.1, 50, .inl v_bytes_numbers))] sz)) 0 0 (va_A [(q_h, .inr (1, [.ref q_h_steps, .ref q_h_bytes, .ref (K.2.1.1 v_names), .int v_at])), (q_h_steps, .inr (2, [.ref q_h_steps_numbers, .int v_steps_many])), (q_h_bytes, .inr (2, [.ref q_h_bytes_numbers, .int v_bytes_many])), (q_h_steps_numbers, .inl (K.2.2.1, 50, .inl v_steps_numbers)), (q_h_bytes_numbers, .inl (K.2.2.1, 50, .inl v_bytes_numbers))] sz)) ∧ (∀ (K : vGl) (q_h q_h_steps q_h_bytes q_h_steps_numbers q_h_bytes_numbers : Nat)  (sz : Nat) (a1 : Int32) (v_names : Nat) (v_at : Int32) (v_steps_many : Int32) (v_bytes_many : Int32) (v_steps_numbers : Nat → Int32) (v_bytes_numbers : Nat → Int32) (post : Int32 → Int32 → Int32 → (Nat → Int32) → Prop) (hw : wpg_X2_readsLevel d 1 a1 (0 : Int32) v_names v_at v_steps_many v_bytes_many v_steps_numbers v_bytes_numbers post), Met l yX2_readsPart (.code yX2_readsPart cX2_readsPart 3 (some .boolean) :: vT) (rmg_X2_readsLevel d) (va_Pc [.ref q_h, .int a1] (vPre K [(q_h, .inr (1, [.ref q_h_steps, .ref q_h_bytes, .ref (K.2.1.1 v_names), .int v_at])), (q_h_steps, .inr (2, [.ref q_h_steps_numbers, .int v_steps_many])), (q_h_bytes, .inr (2, [.ref q_h_bytes_numbers, .int v_bytes_many])), (q_h_steps_numbers, .inl (K.2.2.1, 50, .inl v_steps_numbers)), (q_h_bytes_numbers, .inl (K.2.2.1, 50, .inl v_bytes_numbers))] sz)) (Qc_X2_readsPart K q_h q_h_steps q_h_bytes q_h_steps_numbers q_h_bytes_numbers v_names v_bytes_many v_bytes_numbers post (va_A [(q_h, .inr (1, [.ref q_h_steps, .ref q_h_bytes, .ref (K.2.1.1 v_names), .int v_at])), (q_h_steps, .inr (2, [.ref q_h_steps_numbers, .int v_steps_many])), (q_h_bytes, .inr (2, [.ref q_h_bytes_numbers, .int v_bytes_many])), (q_h_steps_numbers, .inl (K.2.2.1, 50, .inl v_steps_numbers)), (q_h_bytes_numbers, .inl (K.2.2.1, 50, .inl v_bytes_numbers))] sz)) 0 0 (va_A [(q_h, .inr (1, [.ref q_h_steps, .ref q_h_bytes, .ref (K.2.1.1 v_names), .int v_at])), (q_h_steps, .inr (2, [.ref q_h_steps_numbers, .int v_steps_many])), (q_h_bytes, .inr (2, [.ref q_h_bytes_numbers, .int v_bytes_many])), (q_h_steps_numbers, .inl (K.2.2.1, 50, .inl v_steps_numbers)), (q_h_bytes_numbers, .inl (K.2.2.1, 50, .inl v_bytes_numbers))] sz))
set_option maxHeartbeats 4000000 in
set_option maxRecDepth 100000 in
theorem t_X2_readsLevel_b39 {d : Nat} {p : Program} {l : Launch} {e : Env} {s : State} {m : MethodId} {args : Array Value} {below : List Frame} {meth : Method} {c : Code} {A : Nat → Prop} {K : vGl} {q_h q_h_steps q_h_bytes q_h_steps_numbers q_h_bytes_numbers : Nat} {a1 : Int32} {a2 : Int32} {v_names : Nat} {v_bytes_many : Int32} {v_bytes_numbers : Nat → Int32} {post : Int32 → Int32 → Int32 → (Nat → Int32) → Prop} (F : vFx p s m args meth c cX2_readsLevel RX2 6 (some .boolean)) (hX : vX K A s) (IH : IH_X2_readsLevel l d) : ∀ (n : Nat) (x3 : Int32) (x4 : Int32) (v_at : Int32) (v_steps_many : Int32) (v_steps_numbers : Nat → Int32) (H : Heap) (locs : List Loc) (ls : Array Slot), wp_X2_readsLevel_b39 (wpg_X2_readsLevel d) a1 a2 v_names v_bytes_many v_bytes_numbers post n x3 x4 v_at v_steps_many v_steps_numbers → va_P K.1 vwCl [(q_h, .inr (1, [.ref q_h_steps, .ref q_h_bytes, .ref (K.2.1.1 v_names), .int v_at])), (q_h_steps, .inr (2, [.ref q_h_steps_numbers, .int v_steps_many])), (q_h_bytes, .inr (2, [.ref q_h_bytes_numbers, .int v_bytes_many])), (q_h_steps_numbers, .inl (K.2.2.1, 50, .inl v_steps_numbers)), (q_h_bytes_numbers, .inl (K.2.2.1, 50, .inl v_bytes_numbers))] H → va_D A [(q_h, .inr (1, [.ref q_h_steps, .ref q_h_bytes, .ref (K.2.1.1 v_names), .int v_at])), (q_h_steps, .inr (2, [.ref q_h_steps_numbers, .int v_steps_many])), (q_h_bytes, .inr (2, [.ref q_h_bytes_numbers, .int v_bytes_many])), (q_h_steps_numbers, .inl (K.2.2.1, 50, .inl v_steps_numbers)), (q_h_bytes_numbers, .inl (K.2.2.1, 50, .inl v_bytes_numbers))] → va_S A s.heap H locs → lv_has ls 6 [(0, .ref q_h), (1, .int a1), (2, .int a2), (3, .int x3), (4, .int x4)] → W p l e (rmg_X2_readsLevel (d + 1)) s m args below meth c H locs 0 0 (MQ below (Qc_X2_readsLevel K q_h q_h_steps q_h_bytes q_h_steps_numbers q_h_bytes_numbers v_names v_bytes_many v_bytes_numbers post A) args s 0 0 A) (F0 m 39 ls []) := by
  obtain ⟨hx, hb, hml, hown, hts, hr, hlocks⟩ := id F
  intro n
  induction n with
  | zero =>
    intro x3 x4 v_at v_steps_many v_steps_numbers H locs ls hw
    exact hw.elim
  | succ n ih =>
    intro x3 x4 v_at v_steps_many v_steps_numbers H locs ls hw hP hD hS hl
    have hw := u_X2_readsLevel_b39 hw
    refine lv_iload hx hb dX2_readsLevel_39 (lv_at hl 4 rfl) ?_
    refine lv_iload_n hx hb dX2_readsLevel_41 rfl (lv_at hl 3 rfl) ?_
    refine lv_icmp_ge (tgt := 105) hx hb dX2_readsLevel_42 (by decide) (fun c_8 => ?_) (fun c_8 => ?_)
    · have hw := hw.1 c_8
      refine lv_iconst (v := (1 : Int32)) hx hb dX2_readsLevel_105 (by decide) ?_
      exact W.zret (v := (1 : Int32)) hx hb hr vZ1 (fun t ht hW => ⟨⟨(1 : Int32), (v_at, v_steps_many, v_steps_numbers), rfl, ⟨Or.inr rfl, hw⟩, by rw [ht]; exact hP, va_K.moved hW.alike hX.1, hD⟩, hS.F ht⟩) hS.2.2 dX2_readsLevel_106 hlocks
    · have hw := hw.2 c_8
      refine lv_aload_n hx hb dX2_readsLevel_45 rfl (lv_at hl 0 rfl) ?_
      refine vCalli (K := K) (wr := [(q_h_steps, .inr (2, [.ref q_h_steps_numbers, .int v_steps_many])), (q_h_steps_numbers, .inl (K.2.2.1, 50, .inl v_steps_numbers))]) (w1 := (fun _ => [(q_h, .inr (1, [(.ref q_h_steps), .ref q_h_bytes, (.ref (K.2.1.1 v_names)), .int v_at])), (q_h_bytes, .inr (2, [.ref q_h_bytes_numbers, .int v_bytes_many])), (q_h_bytes_numbers, .inl (K.2.2.1, 50, .inl v_bytes_numbers))])) (va_runV (As := []) (rest := []) ⟨hx, hb, hml, hown, hts⟩ (c_X2_next l K q_h q_h_bytes q_h_bytes_numbers (.ref q_h_steps) (.ref (K.2.1.1 v_names)) H.size v_at v_bytes_many v_bytes_numbers _ hw) (cwV 0 hts (vGoodV k_453 k_455 k_4 k_62 k_456) rfl rfl rfl (by decide +kernel) ⟨by show 1 + 1 ≤ 5 + (d + 1); omega, by show 8 + (1 + 11) + 21 ≤ 107 + 25 * (d + 1); omega⟩) ⟨vPre_blind, va_recv hX.1 hP (ci := 1) (q0 := 0) rfl rfl, fun U hU hW => ⟨rfl, vPre_of hX hP hD hS [0, 2, 4] rfl (by decide) U hU hW⟩⟩ rfl rfl hl.1 rfl (lv_room (Nat.le_of_ble_eq_true rfl)) dX2_readsLevel_46 ⟨Nat.zero_le _, Nat.zero_le _⟩) hX hP hD hS [0, 2, 4] [1, 3] rfl rfl (by decide) (by decide) (fun r_9 u H locs hw hP hD hS => ?_)
      have hP : va_P K.1 vwCl [(q_h, .inr (1, [.ref q_h_steps, .ref q_h_bytes, .ref (K.2.1.1 v_names), .int v_at])), (q_h_steps, .inr (2, [.ref q_h_steps_numbers, .int v_steps_many])), (q_h_bytes, .inr (2, [.ref q_h_bytes_numbers, .int v_bytes_many])), (q_h_steps_numbers, .inl (K.2.2.1, 50, .inl v_steps_numbers)), (q_h_bytes_numbers, .inl (K.2.2.1, 50, .inl v_bytes_numbers))] H := hP.sub [2, 0, 3, 1, 4] rfl
      have hD : va_D A [(q_h, .inr (1, [.ref q_h_steps, .ref q_h_bytes, .ref (K.2.1.1 v_names), .int v_at])), (q_h_steps, .inr (2, [.ref q_h_steps_numbers, .int v_steps_many])), (q_h_bytes, .inr (2, [.ref q_h_bytes_numbers, .int v_bytes_many])), (q_h_steps_numbers, .inl (K.2.2.1, 50, .inl v_steps_numbers)), (q_h_bytes_numbers, .inl (K.2.2.1, 50, .inl v_bytes_numbers))] := hD.sub [2, 0, 3, 1, 4] (by decide) rfl
      refine vCalli (K := K) (wr := [(q_h, .inr (1, [.ref q_h_steps, .ref q_h_bytes, .ref (K.2.1.1 v_names), .int v_at])), (q_h_steps, .inr (2, [.ref q_h_steps_numbers, .int v_steps_many])), (q_h_bytes, .inr (2, [.ref q_h_bytes_numbers, .int v_bytes_many])), (q_h_steps_numbers, .inl (K.2.2.1, 50, .inl v_steps_numbers)), (q_h_bytes_numbers, .inl (K.2.2.1, 50, .inl v_bytes_numbers))]) (w1 := (fun _ => [])) (va_runS (As := [.int r_9]) (rest := []) ⟨hx, hb, hml, hown, hts⟩ (c_X2_levelOf l K  H.size r_9 _ hw) (va_cwS 1 hts (vGoodS k_518 k_519 k_62 k_520) rfl rfl rfl (by decide +kernel) ⟨by show 0 + 1 ≤ 5 + (d + 1); omega, by show 8 + (1 + 11) + 0 ≤ 107 + 25 * (d + 1); omega⟩) ⟨vPre_blind, fun U hU hW => ⟨rfl, vPre_of hX hP hD hS [] rfl (by decide) U hU hW⟩⟩ rfl rfl hl.1 rfl (lv_room (Nat.le_of_ble_eq_true rfl)) dX2_readsLevel_49 ⟨Nat.zero_le _, Nat.zero_le _⟩) hX hP hD hS [] [0, 1, 2, 3, 4] rfl rfl (by decide) (by decide) (fun r_10 u H locs hw hP hD hS => ?_)
      have hP : va_P K.1 vwCl [(q_h, .inr (1, [.ref q_h_steps, .ref q_h_bytes, .ref (K.2.1.1 v_names), .int v_at])), (q_h_steps, .inr (2, [.ref q_h_steps_numbers, .int v_steps_many])), (q_h_bytes, .inr (2, [.ref q_h_bytes_numbers, .int v_bytes_many])), (q_h_steps_numbers, .inl (K.2.2.1, 50, .inl v_steps_numbers)), (q_h_bytes_numbers, .inl (K.2.2.1, 50, .inl v_bytes_numbers))] H := hP.sub [0, 1, 2, 3, 4] rfl
      have hD : va_D A [(q_h, .inr (1, [.ref q_h_steps, .ref q_h_bytes, .ref (K.2.1.1 v_names), .int v_at])), (q_h_steps, .inr (2, [.ref q_h_steps_numbers, .int v_steps_many])), (q_h_bytes, .inr (2, [.ref q_h_bytes_numbers, .int v_bytes_many])), (q_h_steps_numbers, .inl (K.2.2.1, 50, .inl v_steps_numbers)), (q_h_bytes_numbers, .inl (K.2.2.1, 50, .inl v_bytes_numbers))] := hD.sub [0, 1, 2, 3, 4] (by decide) rfl
      refine lv_iload_n hx hb dX2_readsLevel_52 rfl (lv_at hl 1 rfl) ?_
      refine lv_icmp_ne (tgt := 105) hx hb dX2_readsLevel_53 (by decide) (fun c_11 => ?_) (fun c_11 => ?_)
      · have hw := hw.2 c_11
        refine lv_iconst (v := (1 : Int32)) hx hb dX2_readsLevel_105 (by decide) ?_
        exact W.zret (v := (1 : Int32)) hx hb hr vZ1 (fun t ht hW => ⟨⟨(1 : Int32), (v_at, v_steps_many, v_steps_numbers), rfl, ⟨Or.inr rfl, hw⟩, by rw [ht]; exact hP, va_K.moved hW.alike hX.1, hD⟩, hS.F ht⟩) hS.2.2 dX2_readsLevel_106 hlocks
      · have hw := hw.1 c_11
        refine lv_aload_n hx hb dX2_readsLevel_56 rfl (lv_at hl 0 rfl) ?_
        refine vCalli (K := K) (wr := [(q_h_steps, .inr (2, [.ref q_h_steps_numbers, .int v_steps_many])), (q_h_steps_numbers, .inl (K.2.2.1, 50, .inl v_steps_numbers))]) (w1 := (fun _ => [(q_h, .inr (1, [(.ref q_h_steps), .ref q_h_bytes, (.ref (K.2.1.1 v_names)), .int v_at])), (q_h_bytes, .inr (2, [.ref q_h_bytes_numbers, .int v_bytes_many])), (q_h_bytes_numbers, .inl (K.2.2.1, 50, .inl v_bytes_numbers))])) (va_runV (As := []) (rest := []) ⟨hx, hb, hml, hown, hts⟩ (c_X2_next l K q_h q_h_bytes q_h_bytes_numbers (.ref q_h_steps) (.ref (K.2.1.1 v_names)) H.size v_at v_bytes_many v_bytes_numbers _ hw) (cwV 0 hts (vGoodV k_453 k_455 k_4 k_62 k_456) rfl rfl rfl (by decide +kernel) ⟨by show 1 + 1 ≤ 5 + (d + 1); omega, by show 8 + (1 + 11) + 21 ≤ 107 + 25 * (d + 1); omega⟩) ⟨vPre_blind, va_recv hX.1 hP (ci := 1) (q0 := 0) rfl rfl, fun U hU hW => ⟨rfl, vPre_of hX hP hD hS [0, 2, 4] rfl (by decide) U hU hW⟩⟩ rfl rfl hl.1 rfl (lv_room (Nat.le_of_ble_eq_true rfl)) dX2_readsLevel_57 ⟨Nat.zero_le _, Nat.zero_le _⟩) hX hP hD hS [0, 2, 4] [1, 3] rfl rfl (by decide) (by decide) (fun r_12 u H locs hw hP hD hS => ?_)
        have hP : va_P K.1 vwCl [(q_h, .inr (1, [.ref q_h_steps, .ref q_h_bytes, .ref (K.2.1.1 v_names), .int v_at])), (q_h_steps, .inr (2, [.ref q_h_steps_numbers, .int v_steps_many])), (q_h_bytes, .inr (2, [.ref q_h_bytes_numbers, .int v_bytes_many])), (q_h_steps_numbers, .inl (K.2.2.1, 50, .inl v_steps_numbers)), (q_h_bytes_numbers, .inl (K.2.2.1, 50, .inl v_bytes_numbers))] H := hP.sub [2, 0, 3, 1, 4] rfl
        have hD : va_D A [(q_h, .inr (1, [.ref q_h_steps, .ref q_h_bytes, .ref (K.2.1.1 v_names), .int v_at])), (q_h_steps, .inr (2, [.ref q_h_steps_numbers, .int v_steps_many])), (q_h_bytes, .inr (2, [.ref q_h_bytes_numbers, .int v_bytes_many])), (q_h_steps_numbers, .inl (K.2.2.1, 50, .inl v_steps_numbers)), (q_h_bytes_numbers, .inl (K.2.2.1, 50, .inl v_bytes_numbers))] := hD.sub [2, 0, 3, 1, 4] (by decide) rfl
        refine lv_istore (lv' := [(5, .int r_12), (0, .ref q_h), (1, .int a1), (2, .int a2), (3, .int x3), (4, .int x4)]) hx hb dX2_readsLevel_60 hl (by decide) rfl (fun ls hl => ?_)
        refine lv_aload_n hx hb dX2_readsLevel_62 rfl (lv_at hl 1 rfl) ?_
        refine lv_dup hx hb dX2_readsLevel_63 rfl ?_
        refine va_get (D := K.1) (ci := 1) (v := .int v_at) (C := RX2) (T := TX2) (N := 4) hx hb hts iwX2 hown hX.1 hP 0 rfl rfl 3 (by decide) (hts _ k_213) (fun _ h9 => h9) rfl dX2_readsLevel_64 ?_
        refine lv_iconst (v := (1 : Int32)) hx hb dX2_readsLevel_67 (by decide) ?_
        refine lv_iadd hx hb dX2_readsLevel_68 ?_
        refine va_put (D := K.1) (ci := 1) (v := .int (v_at + (1 : Int32))) (ty := .int) (C := RX2) (T := TX2) (N := 4) hx hb hts iwX2 tyX2 tyX2_ok nmX2 hown hX.1 hP hD hS 0 rfl rfl 3 (by decide) (hts _ k_213) (fun _ h9 => h9) rfl (by decide +kernel) rfl rfl (Nat.le_of_ble_eq_true rfl) dX2_readsLevel_69 (fun H locs hP hD hS => ?_)
        have hP : va_P K.1 vwCl [(q_h, .inr (1, [.ref q_h_steps, .ref q_h_bytes, .ref (K.2.1.1 v_names), .int (v_at + (1 : Int32))])), (q_h_steps, .inr (2, [.ref q_h_steps_numbers, .int v_steps_many])), (q_h_bytes, .inr (2, [.ref q_h_bytes_numbers, .int v_bytes_many])), (q_h_steps_numbers, .inl (K.2.2.1, 50, .inl v_steps_numbers)), (q_h_bytes_numbers, .inl (K.2.2.1, 50, .inl v_bytes_numbers))] H := hP
        have hD : va_D A [(q_h, .inr (1, [.ref q_h_steps, .ref q_h_bytes, .ref (K.2.1.1 v_names), .int (v_at + (1 : Int32))])), (q_h_steps, .inr (2, [.ref q_h_steps_numbers, .int v_steps_many])), (q_h_bytes, .inr (2, [.ref q_h_bytes_numbers, .int v_bytes_many])), (q_h_steps_numbers, .inl (K.2.2.1, 50, .inl v_steps_numbers)), (q_h_bytes_numbers, .inl (K.2.2.1, 50, .inl v_bytes_numbers))] := hD
        refine lv_aload_n hx hb dX2_readsLevel_72 rfl (lv_at hl 1 rfl) ?_
        refine lv_iload_n hx hb dX2_readsLevel_73 rfl (lv_at hl 2 rfl) ?_
        refine lv_iconst (v := (1 : Int32)) hx hb dX2_readsLevel_74 (by decide) ?_
        refine lv_iadd hx hb dX2_readsLevel_75 ?_
        refine lv_iload_n hx hb dX2_readsLevel_76 rfl (lv_at hl 3 rfl) ?_
        refine vCalli (K := K) (wr := []) (w1 := (fun (u : Int32 × Int32 × (Nat → Int32)) => [(q_h, .inr (1, [.ref q_h_steps, .ref q_h_bytes, .ref (K.2.1.1 v_names), .int u.1])), (q_h_steps, .inr (2, [.ref q_h_steps_numbers, .int u.2.1])), (q_h_bytes, .inr (2, [.ref q_h_bytes_numbers, .int v_bytes_many])), (q_h_steps_numbers, .inl (K.2.2.1, 50, .inl u.2.2)), (q_h_bytes_numbers, .inl (K.2.2.1, 50, .inl v_bytes_numbers))])) (va_runV (As := [.int (a1 + (1 : Int32)), .int a2]) (rest := []) ⟨hx, hb, hml, hown, hts⟩ (IH.1 K q_h q_h_steps q_h_bytes q_h_steps_numbers q_h_bytes_numbers H.size (a1 + (1 : Int32)) a2 v_names (v_at + (1 : Int32)) v_steps_many v_bytes_many v_steps_numbers v_bytes_numbers _ hw) (cwV 2 hts (vGoodV k_445 k_447 k_2 k_62 k_448) rfl rfl rfl (by decide +kernel) ⟨by show (5 + d) + 1 ≤ 5 + (d + 1); omega, by show 8 + (6 + 11) + (107 + 25 * d) ≤ 107 + 25 * (d + 1); omega⟩) ⟨vPre_blind, va_recv hX.1 hP (ci := 1) (q0 := 0) rfl rfl, fun U hU hW => ⟨rfl, vPre_of hX hP hD hS [0, 1, 2, 3, 4] rfl (by decide) U hU hW⟩⟩ rfl rfl hl.1 rfl (lv_room (Nat.le_of_ble_eq_true rfl)) dX2_readsLevel_77 ⟨Nat.zero_le _, Nat.zero_le _⟩) hX hP hD hS [0, 1, 2, 3, 4] [] rfl rfl (by decide) (by decide) (fun r_16 u H locs hw hP hD hS => ?_)
        obtain ⟨v_at_13, v_steps_many_14, v_steps_numbers_15⟩ := u
        have hP : va_P K.1 vwCl [(q_h, .inr (1, [.ref q_h_steps, .ref q_h_bytes, .ref (K.2.1.1 v_names), .int v_at_13])), (q_h_steps, .inr (2, [.ref q_h_steps_numbers, .int v_steps_many_14])), (q_h_bytes, .inr (2, [.ref q_h_bytes_numbers, .int v_bytes_many])), (q_h_steps_numbers, .inl (K.2.2.1, 50, .inl v_steps_numbers_15)), (q_h_bytes_numbers, .inl (K.2.2.1, 50, .inl v_bytes_numbers))] H := hP.sub [0, 1, 2, 3, 4] rfl
        have hD : va_D A [(q_h, .inr (1, [.ref q_h_steps, .ref q_h_bytes, .ref (K.2.1.1 v_names), .int v_at_13])), (q_h_steps, .inr (2, [.ref q_h_steps_numbers, .int v_steps_many_14])), (q_h_bytes, .inr (2, [.ref q_h_bytes_numbers, .int v_bytes_many])), (q_h_steps_numbers, .inl (K.2.2.1, 50, .inl v_steps_numbers_15)), (q_h_bytes_numbers, .inl (K.2.2.1, 50, .inl v_bytes_numbers))] := hD.sub [0, 1, 2, 3, 4] (by decide) rfl
        have hz_r_16 := hw.1
        have hw := hw.2
        refine lv_if_ne (tgt := 85) hx hb dX2_readsLevel_80 (by decide) (fun c_17 => ?_) (fun c_17 => ?_)
        · have hw := hw.2 c_17
          refine lv_aload_n hx hb dX2_readsLevel_85 rfl (lv_at hl 1 rfl) ?_
          refine va_get (D := K.1) (ci := 1) (v := .ref q_h_steps) (C := RX2) (T := TX2) (N := 4) hx hb hts iwX2 hown hX.1 hP 0 rfl rfl 0 (by decide) (hts _ k_209) (fun _ h9 => h9) rfl dX2_readsLevel_86 ?_
          refine lv_sipush (v := (20000 : Int32)) hx hb dX2_readsLevel_89 (by decide) ?_
          refine lv_iload hx hb dX2_readsLevel_92 (lv_at hl 0 rfl) ?_
          refine lv_iadd hx hb dX2_readsLevel_94 ?_
          refine vCalli (K := K) (wr := [(q_h, .inr (1, [.ref q_h_steps, .ref q_h_bytes, .ref (K.2.1.1 v_names), .int v_at_13])), (q_h_bytes, .inr (2, [.ref q_h_bytes_numbers, .int v_bytes_many])), (q_h_bytes_numbers, .inl (K.2.2.1, 50, .inl v_bytes_numbers))]) (w1 := (fun (u : Int32 × (Nat → Int32)) => [(q_h_steps, .inr (2, [.ref q_h_steps_numbers, .int u.1])), (q_h_steps_numbers, .inl (K.2.2.1, 50, .inl u.2))])) (va_runV (As := [.int ((20000 : Int32) + r_12)]) (rest := []) ⟨hx, hb, hml, hown, hts⟩ (c_X3_add l K q_h_steps q_h_steps_numbers 50 H.size ((20000 : Int32) + r_12) v_steps_many_14 v_steps_numbers_15 _ hw) (cwV 1 hts (vGoodV k_465 k_421 k_422 k_60 k_423) rfl rfl rfl (by decide +kernel) ⟨by show 0 + 1 ≤ 5 + (d + 1); omega, by show 8 + (2 + 11) + 0 ≤ 107 + 25 * (d + 1); omega⟩) ⟨vPre_blind, va_recv hX.1 hP (ci := 2) (q0 := 1) rfl rfl, fun U hU hW => ⟨rfl, vPre_of hX hP hD hS [1, 3] rfl (by decide) U hU hW⟩⟩ rfl rfl hl.1 rfl (lv_room (Nat.le_of_ble_eq_true rfl)) dX2_readsLevel_95 ⟨Nat.zero_le _, Nat.zero_le _⟩) hX hP hD hS [1, 3] [0, 2, 4] rfl rfl (by decide) (by decide) (fun r_20 u H locs hw hP hD hS => ?_)
          obtain ⟨v_steps_many_18, v_steps_numbers_19⟩ := u
          have hP : va_P K.1 vwCl [(q_h, .inr (1, [.ref q_h_steps, .ref q_h_bytes, .ref (K.2.1.1 v_names), .int v_at_13])), (q_h_steps, .inr (2, [.ref q_h_steps_numbers, .int v_steps_many_18])), (q_h_bytes, .inr (2, [.ref q_h_bytes_numbers, .int v_bytes_many])), (q_h_steps_numbers, .inl (K.2.2.1, 50, .inl v_steps_numbers_19)), (q_h_bytes_numbers, .inl (K.2.2.1, 50, .inl v_bytes_numbers))] H := hP.sub [0, 3, 1, 4, 2] rfl
          have hD : va_D A [(q_h, .inr (1, [.ref q_h_steps, .ref q_h_bytes, .ref (K.2.1.1 v_names), .int v_at_13])), (q_h_steps, .inr (2, [.ref q_h_steps_numbers, .int v_steps_many_18])), (q_h_bytes, .inr (2, [.ref q_h_bytes_numbers, .int v_bytes_many])), (q_h_steps_numbers, .inl (K.2.2.1, 50, .inl v_steps_numbers_19)), (q_h_bytes_numbers, .inl (K.2.2.1, 50, .inl v_bytes_numbers))] := hD.sub [0, 3, 1, 4, 2] (by decide) rfl
          have hz_r_20 := hw.1
          have hw := hw.2
          refine lv_pop hx hb dX2_readsLevel_98 rfl ?_
          refine lv_iinc (v := (x4 + (1 : Int32))) (lv' := [(4, .int (x4 + (1 : Int32))), (5, .int r_12), (0, .ref q_h), (1, .int a1), (2, .int a2), (3, .int x3)]) hx hb dX2_readsLevel_99 hl (k := 5) rfl rfl (by decide) rfl (fun ls hl => ?_)
          refine lv_goto (tgt := 39) hx hb dX2_readsLevel_102 (by decide) ?_
          exact ih _ _ _ _ _ _ _ _ hw hP hD hS (lv_sub hl [2, 3, 4, 5, 0] rfl)
        · have hw := hw.1 c_17
          refine lv_iconst (v := (0 : Int32)) hx hb dX2_readsLevel_83 (by decide) ?_
          exact W.zret (v := (0 : Int32)) hx hb hr vZ0 (fun t ht hW => ⟨⟨(0 : Int32), (v_at_13, v_steps_many_14, v_steps_numbers_15), rfl, ⟨Or.inl rfl, hw⟩, by rw [ht]; exact hP, va_K.moved hW.alike hX.1, hD⟩, hS.F ht⟩) hS.2.2 dX2_readsLevel_84 hlocks
set_option maxHeartbeats 4000000 in
set_option maxRecDepth 100000 in
theorem t_X2_readsPart_b41 {d : Nat} {p : Program} {l : Launch} {e : Env} {s : State} {m : MethodId} {args : Array Value} {below : List Frame} {meth : Method} {c : Code} {A : Nat → Prop} {K : vGl} {q_h q_h_steps q_h_bytes q_h_steps_numbers q_h_bytes_numbers : Nat} {a1 : Int32} {v_names : Nat} {v_bytes_many : Int32} {v_bytes_numbers : Nat → Int32} {post : Int32 → Int32 → Int32 → (Nat → Int32) → Prop} (F : vFx p s m args meth c cX2_readsPart RX2 3 (some .boolean)) (hX : vX K A s) (IH : IH_X2_readsLevel l d) : ∀ (x2 : Int32) (v_at : Int32) (v_steps_many : Int32) (v_steps_numbers : Nat → Int32) (H : Heap) (locs : List Loc) (ls : Array Slot), wp_X2_readsPart_b41 (wpg_X2_readsLevel d) a1 v_names v_bytes_many v_bytes_numbers post x2 v_at v_steps_many v_steps_numbers → va_P K.1 vwCl [(q_h, .inr (1, [.ref q_h_steps, .ref q_h_bytes, .ref (K.2.1.1 v_names), .int v_at])), (q_h_steps, .inr (2, [.ref q_h_steps_numbers, .int v_steps_many])), (q_h_bytes, .inr (2, [.ref q_h_bytes_numbers, .int v_bytes_many])), (q_h_steps_numbers, .inl (K.2.2.1, 50, .inl v_steps_numbers)), (q_h_bytes_numbers, .inl (K.2.2.1, 50, .inl v_bytes_numbers))] H → va_D A [(q_h, .inr (1, [.ref q_h_steps, .ref q_h_bytes, .ref (K.2.1.1 v_names), .int v_at])), (q_h_steps, .inr (2, [.ref q_h_steps_numbers, .int v_steps_many])), (q_h_bytes, .inr (2, [.ref q_h_bytes_numbers, .int v_bytes_many])), (q_h_steps_numbers, .inl (K.2.2.1, 50, .inl v_steps_numbers)), (q_h_bytes_numbers, .inl (K.2.2.1, 50, .inl v_bytes_numbers))] → va_S A s.heap H locs → lv_has ls 3 [(0, .ref q_h), (1, .int a1), (2, .int x2)] → W p l e (rmg_X2_readsLevel (d + 1)) s m args below meth c H locs 0 0 (MQ below (Qc_X2_readsPart K q_h q_h_steps q_h_bytes q_h_steps_numbers q_h_bytes_numbers v_names v_bytes_many v_bytes_numbers post A) args s 0 0 A) (F0 m 41 ls []) := by
  obtain ⟨hx, hb, hml, hown, hts, hr, hlocks⟩ := id F
  intro x2 v_at v_steps_many v_steps_numbers H locs ls hw hP hD hS hl
  unfold wp_X2_readsPart_b41 at hw
  refine lv_iload_n hx hb dX2_readsPart_41 rfl (lv_at hl 1 rfl) ?_
  refine lv_iconst (v := (5 : Int32)) hx hb dX2_readsPart_42 (by decide) ?_
  refine lv_icmp_lt (tgt := 48) hx hb dX2_readsPart_43 (by decide) (fun c_4 => ?_) (fun c_4 => ?_)
  · have hw := hw.1 c_4
    refine lv_aload_n hx hb dX2_readsPart_48 rfl (lv_at hl 0 rfl) ?_
    refine lv_dup hx hb dX2_readsPart_49 rfl ?_
    refine va_get (D := K.1) (ci := 1) (v := .int v_at) (C := RX2) (T := TX2) (N := 4) hx hb hts iwX2 hown hX.1 hP 0 rfl rfl 3 (by decide) (hts _ k_213) (fun _ h9 => h9) rfl dX2_readsPart_50 ?_
    refine lv_iconst (v := (1 : Int32)) hx hb dX2_readsPart_53 (by decide) ?_
    refine lv_iadd hx hb dX2_readsPart_54 ?_
    refine va_put (D := K.1) (ci := 1) (v := .int (v_at + (1 : Int32))) (ty := .int) (C := RX2) (T := TX2) (N := 4) hx hb hts iwX2 tyX2 tyX2_ok nmX2 hown hX.1 hP hD hS 0 rfl rfl 3 (by decide) (hts _ k_213) (fun _ h9 => h9) rfl (by decide +kernel) rfl rfl (Nat.le_of_ble_eq_true rfl) dX2_readsPart_55 (fun H locs hP hD hS => ?_)
    have hP : va_P K.1 vwCl [(q_h, .inr (1, [.ref q_h_steps, .ref q_h_bytes, .ref (K.2.1.1 v_names), .int (v_at + (1 : Int32))])), (q_h_steps, .inr (2, [.ref q_h_steps_numbers, .int v_steps_many])), (q_h_bytes, .inr (2, [.ref q_h_bytes_numbers, .int v_bytes_many])), (q_h_steps_numbers, .inl (K.2.2.1, 50, .inl v_steps_numbers)), (q_h_bytes_numbers, .inl (K.2.2.1, 50, .inl v_bytes_numbers))] H := hP
    have hD : va_D A [(q_h, .inr (1, [.ref q_h_steps, .ref q_h_bytes, .ref (K.2.1.1 v_names), .int (v_at + (1 : Int32))])), (q_h_steps, .inr (2, [.ref q_h_steps_numbers, .int v_steps_many])), (q_h_bytes, .inr (2, [.ref q_h_bytes_numbers, .int v_bytes_many])), (q_h_steps_numbers, .inl (K.2.2.1, 50, .inl v_steps_numbers)), (q_h_bytes_numbers, .inl (K.2.2.1, 50, .inl v_bytes_numbers))] := hD
    refine lv_iload_n hx hb dX2_readsPart_58 rfl (lv_at hl 2 rfl) ?_
    refine lv_bipush (v := (33 : Int32)) hx hb dX2_readsPart_59 (by decide) ?_
    refine lv_icmp_ne (tgt := 93) hx hb dX2_readsPart_61 (by decide) (fun c_5 => ?_) (fun c_5 => ?_)
    · have hw := hw.2 c_5
      refine lv_aload_n hx hb dX2_readsPart_93 rfl (lv_at hl 0 rfl) ?_
      refine lv_iconst (v := (0 : Int32)) hx hb dX2_readsPart_94 (by decide) ?_
      refine lv_iload_n hx hb dX2_readsPart_95 rfl (lv_at hl 1 rfl) ?_
      refine lv_iconst (v := (1 : Int32)) hx hb dX2_readsPart_96 (by decide) ?_
      refine lv_iadd hx hb dX2_readsPart_97 ?_
      refine vCalli (K := K) (wr := []) (w1 := (fun (u : Int32 × Int32 × (Nat → Int32)) => [(q_h, .inr (1, [.ref q_h_steps, .ref q_h_bytes, .ref (K.2.1.1 v_names), .int u.1])), (q_h_steps, .inr (2, [.ref q_h_steps_numbers, .int u.2.1])), (q_h_bytes, .inr (2, [.ref q_h_bytes_numbers, .int v_bytes_many])), (q_h_steps_numbers, .inl (K.2.2.1, 50, .inl u.2.2)), (q_h_bytes_numbers, .inl (K.2.2.1, 50, .inl v_bytes_numbers))])) (va_runV (As := [.int (0 : Int32), .int (a1 + (1 : Int32))]) (rest := []) ⟨hx, hb, hml, hown, hts⟩ (IH.1 K q_h q_h_steps q_h_bytes q_h_steps_numbers q_h_bytes_numbers H.size (0 : Int32) (a1 + (1 : Int32)) v_names (v_at + (1 : Int32)) v_steps_many v_bytes_many v_steps_numbers v_bytes_numbers _ hw) (cwV 2 hts (vGoodV k_445 k_447 k_2 k_62 k_448) rfl rfl rfl (by decide +kernel) ⟨by show (5 + d) + 1 ≤ 5 + (d + 1); omega, by show 8 + (6 + 11) + (107 + 25 * d) ≤ 107 + 25 * (d + 1); omega⟩) ⟨vPre_blind, va_recv hX.1 hP (ci := 1) (q0 := 0) rfl rfl, fun U hU hW => ⟨rfl, vPre_of hX hP hD hS [0, 1, 2, 3, 4] rfl (by decide) U hU hW⟩⟩ rfl rfl hl.1 rfl (lv_room (Nat.le_of_ble_eq_true rfl)) dX2_readsPart_98 ⟨Nat.zero_le _, Nat.zero_le _⟩) hX hP hD hS [0, 1, 2, 3, 4] [] rfl rfl (by decide) (by decide) (fun r_9 u H locs hw hP hD hS => ?_)
      obtain ⟨v_at_6, v_steps_many_7, v_steps_numbers_8⟩ := u
      have hP : va_P K.1 vwCl [(q_h, .inr (1, [.ref q_h_steps, .ref q_h_bytes, .ref (K.2.1.1 v_names), .int v_at_6])), (q_h_steps, .inr (2, [.ref q_h_steps_numbers, .int v_steps_many_7])), (q_h_bytes, .inr (2, [.ref q_h_bytes_numbers, .int v_bytes_many])), (q_h_steps_numbers, .inl (K.2.2.1, 50, .inl v_steps_numbers_8)), (q_h_bytes_numbers, .inl (K.2.2.1, 50, .inl v_bytes_numbers))] H := hP.sub [0, 1, 2, 3, 4] rfl
      have hD : va_D A [(q_h, .inr (1, [.ref q_h_steps, .ref q_h_bytes, .ref (K.2.1.1 v_names), .int v_at_6])), (q_h_steps, .inr (2, [.ref q_h_steps_numbers, .int v_steps_many_7])), (q_h_bytes, .inr (2, [.ref q_h_bytes_numbers, .int v_bytes_many])), (q_h_steps_numbers, .inl (K.2.2.1, 50, .inl v_steps_numbers_8)), (q_h_bytes_numbers, .inl (K.2.2.1, 50, .inl v_bytes_numbers))] := hD.sub [0, 1, 2, 3, 4] (by decide) rfl
      have hz_r_9 := hw.1
      have hw := hw.2
      refine lv_if_eq (tgt := 113) hx hb dX2_readsPart_101 (by decide) (fun c_10 => ?_) (fun c_10 => ?_)
      · have hw := hw.1 c_10
        refine lv_iconst (v := (0 : Int32)) hx hb dX2_readsPart_113 (by decide) ?_
        exact W.zret (v := (0 : Int32)) hx hb hr vZ0 (fun t ht hW => ⟨⟨(0 : Int32), (v_at_6, v_steps_many_7, v_steps_numbers_8), rfl, ⟨Or.inl rfl, hw⟩, by rw [ht]; exact hP, va_K.moved hW.alike hX.1, hD⟩, hS.F ht⟩) hS.2.2 dX2_readsPart_114 hlocks
      · have hw := hw.2 c_10
        refine lv_aload_n hx hb dX2_readsPart_104 rfl (lv_at hl 0 rfl) ?_
        refine vCalli (K := K) (wr := [(q_h_steps, .inr (2, [.ref q_h_steps_numbers, .int v_steps_many_7])), (q_h_steps_numbers, .inl (K.2.2.1, 50, .inl v_steps_numbers_8))]) (w1 := (fun _ => [(q_h, .inr (1, [(.ref q_h_steps), .ref q_h_bytes, (.ref (K.2.1.1 v_names)), .int v_at_6])), (q_h_bytes, .inr (2, [.ref q_h_bytes_numbers, .int v_bytes_many])), (q_h_bytes_numbers, .inl (K.2.2.1, 50, .inl v_bytes_numbers))])) (va_runV (As := []) (rest := []) ⟨hx, hb, hml, hown, hts⟩ (c_X2_next l K q_h q_h_bytes q_h_bytes_numbers (.ref q_h_steps) (.ref (K.2.1.1 v_names)) H.size v_at_6 v_bytes_many v_bytes_numbers _ hw) (cwV 0 hts (vGoodV k_453 k_455 k_4 k_62 k_456) rfl rfl rfl (by decide +kernel) ⟨by show 1 + 1 ≤ 5 + (d + 1); omega, by show 8 + (1 + 11) + 21 ≤ 107 + 25 * (d + 1); omega⟩) ⟨vPre_blind, va_recv hX.1 hP (ci := 1) (q0 := 0) rfl rfl, fun U hU hW => ⟨rfl, vPre_of hX hP hD hS [0, 2, 4] rfl (by decide) U hU hW⟩⟩ rfl rfl hl.1 rfl (lv_room (Nat.le_of_ble_eq_true rfl)) dX2_readsPart_105 ⟨Nat.zero_le _, Nat.zero_le _⟩) hX hP hD hS [0, 2, 4] [1, 3] rfl rfl (by decide) (by decide) (fun r_11 u H locs hw hP hD hS => ?_)
        have hP : va_P K.1 vwCl [(q_h, .inr (1, [.ref q_h_steps, .ref q_h_bytes, .ref (K.2.1.1 v_names), .int v_at_6])), (q_h_steps, .inr (2, [.ref q_h_steps_numbers, .int v_steps_many_7])), (q_h_bytes, .inr (2, [.ref q_h_bytes_numbers, .int v_bytes_many])), (q_h_steps_numbers, .inl (K.2.2.1, 50, .inl v_steps_numbers_8)), (q_h_bytes_numbers, .inl (K.2.2.1, 50, .inl v_bytes_numbers))] H := hP.sub [2, 0, 3, 1, 4] rfl
        have hD : va_D A [(q_h, .inr (1, [.ref q_h_steps, .ref q_h_bytes, .ref (K.2.1.1 v_names), .int v_at_6])), (q_h_steps, .inr (2, [.ref q_h_steps_numbers, .int v_steps_many_7])), (q_h_bytes, .inr (2, [.ref q_h_bytes_numbers, .int v_bytes_many])), (q_h_steps_numbers, .inl (K.2.2.1, 50, .inl v_steps_numbers_8)), (q_h_bytes_numbers, .inl (K.2.2.1, 50, .inl v_bytes_numbers))] := hD.sub [2, 0, 3, 1, 4] (by decide) rfl
        refine lv_bipush (v := (41 : Int32)) hx hb dX2_readsPart_108 (by decide) ?_
        refine lv_icmp_eq (tgt := 115) hx hb dX2_readsPart_110 (by decide) (fun c_12 => ?_) (fun c_12 => ?_)
        · have hw := hw.1 c_12
          refine lv_aload_n hx hb dX2_readsPart_115 rfl (lv_at hl 0 rfl) ?_
          refine lv_dup hx hb dX2_readsPart_116 rfl ?_
          refine va_get (D := K.1) (ci := 1) (v := .int v_at_6) (C := RX2) (T := TX2) (N := 4) hx hb hts iwX2 hown hX.1 hP 0 rfl rfl 3 (by decide) (hts _ k_213) (fun _ h9 => h9) rfl dX2_readsPart_117 ?_
          refine lv_iconst (v := (1 : Int32)) hx hb dX2_readsPart_120 (by decide) ?_
          refine lv_iadd hx hb dX2_readsPart_121 ?_
          refine va_put (D := K.1) (ci := 1) (v := .int (v_at_6 + (1 : Int32))) (ty := .int) (C := RX2) (T := TX2) (N := 4) hx hb hts iwX2 tyX2 tyX2_ok nmX2 hown hX.1 hP hD hS 0 rfl rfl 3 (by decide) (hts _ k_213) (fun _ h9 => h9) rfl (by decide +kernel) rfl rfl (Nat.le_of_ble_eq_true rfl) dX2_readsPart_122 (fun H locs hP hD hS => ?_)
          have hP : va_P K.1 vwCl [(q_h, .inr (1, [.ref q_h_steps, .ref q_h_bytes, .ref (K.2.1.1 v_names), .int (v_at_6 + (1 : Int32))])), (q_h_steps, .inr (2, [.ref q_h_steps_numbers, .int v_steps_many_7])), (q_h_bytes, .inr (2, [.ref q_h_bytes_numbers, .int v_bytes_many])), (q_h_steps_numbers, .inl (K.2.2.1, 50, .inl v_steps_numbers_8)), (q_h_bytes_numbers, .inl (K.2.2.1, 50, .inl v_bytes_numbers))] H := hP
          have hD : va_D A [(q_h, .inr (1, [.ref q_h_steps, .ref q_h_bytes, .ref (K.2.1.1 v_names), .int (v_at_6 + (1 : Int32))])), (q_h_steps, .inr (2, [.ref q_h_steps_numbers, .int v_steps_many_7])), (q_h_bytes, .inr (2, [.ref q_h_bytes_numbers, .int v_bytes_many])), (q_h_steps_numbers, .inl (K.2.2.1, 50, .inl v_steps_numbers_8)), (q_h_bytes_numbers, .inl (K.2.2.1, 50, .inl v_bytes_numbers))] := hD
          refine lv_iconst (v := (1 : Int32)) hx hb dX2_readsPart_125 (by decide) ?_
          exact W.zret (v := (1 : Int32)) hx hb hr vZ1 (fun t ht hW => ⟨⟨(1 : Int32), ((v_at_6 + (1 : Int32)), v_steps_many_7, v_steps_numbers_8), rfl, ⟨Or.inr rfl, hw⟩, by rw [ht]; exact hP, va_K.moved hW.alike hX.1, hD⟩, hS.F ht⟩) hS.2.2 dX2_readsPart_126 hlocks
        · have hw := hw.2 c_12
          refine lv_iconst (v := (0 : Int32)) hx hb dX2_readsPart_113 (by decide) ?_
          exact W.zret (v := (0 : Int32)) hx hb hr vZ0 (fun t ht hW => ⟨⟨(0 : Int32), (v_at_6, v_steps_many_7, v_steps_numbers_8), rfl, ⟨Or.inl rfl, hw⟩, by rw [ht]; exact hP, va_K.moved hW.alike hX.1, hD⟩, hS.F ht⟩) hS.2.2 dX2_readsPart_114 hlocks
    · have hw := hw.1 c_5
      refine lv_aload_n hx hb dX2_readsPart_64 rfl (lv_at hl 0 rfl) ?_
      refine lv_iload_n hx hb dX2_readsPart_65 rfl (lv_at hl 1 rfl) ?_
      refine lv_iconst (v := (1 : Int32)) hx hb dX2_readsPart_66 (by decide) ?_
      refine lv_iadd hx hb dX2_readsPart_67 ?_
      refine vCalli (K := K) (wr := []) (w1 := (fun (u : Int32 × Int32 × (Nat → Int32)) => [(q_h, .inr (1, [.ref q_h_steps, .ref q_h_bytes, .ref (K.2.1.1 v_names), .int u.1])), (q_h_steps, .inr (2, [.ref q_h_steps_numbers, .int u.2.1])), (q_h_bytes, .inr (2, [.ref q_h_bytes_numbers, .int v_bytes_many])), (q_h_steps_numbers, .inl (K.2.2.1, 50, .inl u.2.2)), (q_h_bytes_numbers, .inl (K.2.2.1, 50, .inl v_bytes_numbers))])) (va_runV (As := [.int (a1 + (1 : Int32))]) (rest := []) ⟨hx, hb, hml, hown, hts⟩ (IH.2 K q_h q_h_steps q_h_bytes q_h_steps_numbers q_h_bytes_numbers H.size (a1 + (1 : Int32)) v_names (v_at + (1 : Int32)) v_steps_many v_bytes_many v_steps_numbers v_bytes_numbers _ hw) (cwV 1 hts (vGoodV k_449 k_451 k_3 k_62 k_452) rfl rfl rfl (by decide +kernel) ⟨by show (5 + d) + 1 ≤ 5 + (d + 1); omega, by show 8 + (3 + 11) + (107 + 25 * d) ≤ 107 + 25 * (d + 1); omega⟩) ⟨vPre_blind, va_recv hX.1 hP (ci := 1) (q0 := 0) rfl rfl, fun U hU hW => ⟨rfl, vPre_of hX hP hD hS [0, 1, 2, 3, 4] rfl (by decide) U hU hW⟩⟩ rfl rfl hl.1 rfl (lv_room (Nat.le_of_ble_eq_true rfl)) dX2_readsPart_68 ⟨Nat.zero_le _, Nat.zero_le _⟩) hX hP hD hS [0, 1, 2, 3, 4] [] rfl rfl (by decide) (by decide) (fun r_16 u H locs hw hP hD hS => ?_)
      obtain ⟨v_at_13, v_steps_many_14, v_steps_numbers_15⟩ := u
      have hP : va_P K.1 vwCl [(q_h, .inr (1, [.ref q_h_steps, .ref q_h_bytes, .ref (K.2.1.1 v_names), .int v_at_13])), (q_h_steps, .inr (2, [.ref q_h_steps_numbers, .int v_steps_many_14])), (q_h_bytes, .inr (2, [.ref q_h_bytes_numbers, .int v_bytes_many])), (q_h_steps_numbers, .inl (K.2.2.1, 50, .inl v_steps_numbers_15)), (q_h_bytes_numbers, .inl (K.2.2.1, 50, .inl v_bytes_numbers))] H := hP.sub [0, 1, 2, 3, 4] rfl
      have hD : va_D A [(q_h, .inr (1, [.ref q_h_steps, .ref q_h_bytes, .ref (K.2.1.1 v_names), .int v_at_13])), (q_h_steps, .inr (2, [.ref q_h_steps_numbers, .int v_steps_many_14])), (q_h_bytes, .inr (2, [.ref q_h_bytes_numbers, .int v_bytes_many])), (q_h_steps_numbers, .inl (K.2.2.1, 50, .inl v_steps_numbers_15)), (q_h_bytes_numbers, .inl (K.2.2.1, 50, .inl v_bytes_numbers))] := hD.sub [0, 1, 2, 3, 4] (by decide) rfl
      have hz_r_16 := hw.1
      have hw := hw.2
      refine lv_if_eq (tgt := 91) hx hb dX2_readsPart_71 (by decide) (fun c_17 => ?_) (fun c_17 => ?_)
      · have hw := hw.1 c_17
        refine lv_iconst (v := (0 : Int32)) hx hb dX2_readsPart_91 (by decide) ?_
        exact W.zret (v := (0 : Int32)) hx hb hr vZ0 (fun t ht hW => ⟨⟨(0 : Int32), (v_at_13, v_steps_many_14, v_steps_numbers_15), rfl, ⟨Or.inl rfl, hw⟩, by rw [ht]; exact hP, va_K.moved hW.alike hX.1, hD⟩, hS.F ht⟩) hS.2.2 dX2_readsPart_92 hlocks
      · have hw := hw.2 c_17
        refine lv_aload_n hx hb dX2_readsPart_74 rfl (lv_at hl 0 rfl) ?_
        refine va_get (D := K.1) (ci := 1) (v := .ref q_h_steps) (C := RX2) (T := TX2) (N := 4) hx hb hts iwX2 hown hX.1 hP 0 rfl rfl 0 (by decide) (hts _ k_209) (fun _ h9 => h9) rfl dX2_readsPart_75 ?_
        refine lv_sipush (v := (20033 : Int32)) hx hb dX2_readsPart_78 (by decide) ?_
        refine vCalli (K := K) (wr := [(q_h, .inr (1, [.ref q_h_steps, .ref q_h_bytes, .ref (K.2.1.1 v_names), .int v_at_13])), (q_h_bytes, .inr (2, [.ref q_h_bytes_numbers, .int v_bytes_many])), (q_h_bytes_numbers, .inl (K.2.2.1, 50, .inl v_bytes_numbers))]) (w1 := (fun (u : Int32 × (Nat → Int32)) => [(q_h_steps, .inr (2, [.ref q_h_steps_numbers, .int u.1])), (q_h_steps_numbers, .inl (K.2.2.1, 50, .inl u.2))])) (va_runV (As := [.int (20033 : Int32)]) (rest := []) ⟨hx, hb, hml, hown, hts⟩ (c_X3_add l K q_h_steps q_h_steps_numbers 50 H.size (20033 : Int32) v_steps_many_14 v_steps_numbers_15 _ hw) (cwV 1 hts (vGoodV k_465 k_421 k_422 k_60 k_423) rfl rfl rfl (by decide +kernel) ⟨by show 0 + 1 ≤ 5 + (d + 1); omega, by show 8 + (2 + 11) + 0 ≤ 107 + 25 * (d + 1); omega⟩) ⟨vPre_blind, va_recv hX.1 hP (ci := 2) (q0 := 1) rfl rfl, fun U hU hW => ⟨rfl, vPre_of hX hP hD hS [1, 3] rfl (by decide) U hU hW⟩⟩ rfl rfl hl.1 rfl (lv_room (Nat.le_of_ble_eq_true rfl)) dX2_readsPart_81 ⟨Nat.zero_le _, Nat.zero_le _⟩) hX hP hD hS [1, 3] [0, 2, 4] rfl rfl (by decide) (by decide) (fun r_20 u H locs hw hP hD hS => ?_)
        obtain ⟨v_steps_many_18, v_steps_numbers_19⟩ := u
        have hP : va_P K.1 vwCl [(q_h, .inr (1, [.ref q_h_steps, .ref q_h_bytes, .ref (K.2.1.1 v_names), .int v_at_13])), (q_h_steps, .inr (2, [.ref q_h_steps_numbers, .int v_steps_many_18])), (q_h_bytes, .inr (2, [.ref q_h_bytes_numbers, .int v_bytes_many])), (q_h_steps_numbers, .inl (K.2.2.1, 50, .inl v_steps_numbers_19)), (q_h_bytes_numbers, .inl (K.2.2.1, 50, .inl v_bytes_numbers))] H := hP.sub [0, 3, 1, 4, 2] rfl
        have hD : va_D A [(q_h, .inr (1, [.ref q_h_steps, .ref q_h_bytes, .ref (K.2.1.1 v_names), .int v_at_13])), (q_h_steps, .inr (2, [.ref q_h_steps_numbers, .int v_steps_many_18])), (q_h_bytes, .inr (2, [.ref q_h_bytes_numbers, .int v_bytes_many])), (q_h_steps_numbers, .inl (K.2.2.1, 50, .inl v_steps_numbers_19)), (q_h_bytes_numbers, .inl (K.2.2.1, 50, .inl v_bytes_numbers))] := hD.sub [0, 3, 1, 4, 2] (by decide) rfl
        have hz_r_20 := hw.1
        have hw := hw.2
        refine lv_if_eq (tgt := 91) hx hb dX2_readsPart_84 (by decide) (fun c_21 => ?_) (fun c_21 => ?_)
        · have hw := hw.1 c_21
          refine lv_iconst (v := (0 : Int32)) hx hb dX2_readsPart_91 (by decide) ?_
          exact W.zret (v := (0 : Int32)) hx hb hr vZ0 (fun t ht hW => ⟨⟨(0 : Int32), (v_at_13, v_steps_many_18, v_steps_numbers_19), rfl, ⟨Or.inl rfl, hw⟩, by rw [ht]; exact hP, va_K.moved hW.alike hX.1, hD⟩, hS.F ht⟩) hS.2.2 dX2_readsPart_92 hlocks
        · have hw := hw.2 c_21
          refine lv_iconst (v := (1 : Int32)) hx hb dX2_readsPart_87 (by decide) ?_
          refine lv_goto (tgt := 92) hx hb dX2_readsPart_88 (by decide) ?_
          exact W.zret (v := (1 : Int32)) hx hb hr vZ1 (fun t ht hW => ⟨⟨(1 : Int32), (v_at_13, v_steps_many_18, v_steps_numbers_19), rfl, ⟨Or.inr rfl, hw⟩, by rw [ht]; exact hP, va_K.moved hW.alike hX.1, hD⟩, hS.F ht⟩) hS.2.2 dX2_readsPart_92 hlocks
  · have hw := hw.2 c_4
    refine lv_iconst (v := (0 : Int32)) hx hb dX2_readsPart_46 (by decide) ?_
    exact W.zret (v := (0 : Int32)) hx hb hr vZ0 (fun t ht hW => ⟨⟨(0 : Int32), (v_at, v_steps_many, v_steps_numbers), rfl, ⟨Or.inl rfl, hw⟩, by rw [ht]; exact hP, va_K.moved hW.alike hX.1, hD⟩, hS.F ht⟩) hS.2.2 dX2_readsPart_47 hlocks
set_option maxHeartbeats 4000000 in
set_option maxRecDepth 100000 in
theorem cs_X2_readsLevel (l : Launch) (d : Nat) (IH : IH_X2_readsLevel l d) (K : vGl) (q_h q_h_steps q_h_bytes q_h_steps_numbers q_h_bytes_numbers : Nat)  (sz : Nat) (a1 : Int32) (a2 : Int32) (v_names : Nat) (v_at : Int32) (v_steps_many : Int32) (v_bytes_many : Int32) (v_steps_numbers : Nat → Int32) (v_bytes_numbers : Nat → Int32) (post : Int32 → Int32 → Int32 → (Nat → Int32) → Prop) (hw : wpg_X2_readsLevel (d + 1) 0 a1 a2 v_names v_at v_steps_many v_bytes_many v_steps_numbers v_bytes_numbers post) : Met l yX2_readsLevel (.code yX2_readsLevel cX2_readsLevel 6 (some .boolean) :: vT) (rmg_X2_readsLevel (d + 1)) (va_Pc [.ref q_h, .int a1, .int a2] (vPre K [(q_h, .inr (1, [.ref q_h_steps, .ref q_h_bytes, .ref (K.2.1.1 v_names), .int v_at])), (q_h_steps, .inr (2, [.ref q_h_steps_numbers, .int v_steps_many])), (q_h_bytes, .inr (2, [.ref q_h_bytes_numbers, .int v_bytes_many])), (q_h_steps_numbers, .inl (K.2.2.1, 50, .inl v_steps_numbers)), (q_h_bytes_numbers, .inl (K.2.2.1, 50, .inl v_bytes_numbers))] sz)) (Qc_X2_readsLevel K q_h q_h_steps q_h_bytes q_h_steps_numbers q_h_bytes_numbers v_names v_bytes_many v_bytes_numbers post (va_A [(q_h, .inr (1, [.ref q_h_steps, .ref q_h_bytes, .ref (K.2.1.1 v_names), .int v_at])), (q_h_steps, .inr (2, [.ref q_h_steps_numbers, .int v_steps_many])), (q_h_bytes, .inr (2, [.ref q_h_bytes_numbers, .int v_bytes_many])), (q_h_steps_numbers, .inl (K.2.2.1, 50, .inl v_steps_numbers)), (q_h_bytes_numbers, .inl (K.2.2.1, 50, .inl v_bytes_numbers))] sz)) 0 0 (va_A [(q_h, .inr (1, [.ref q_h_steps, .ref q_h_bytes, .ref (K.2.1.1 v_names), .int v_at])), (q_h_steps, .inr (2, [.ref q_h_steps_numbers, .int v_steps_many])), (q_h_bytes, .inr (2, [.ref q_h_bytes_numbers, .int v_bytes_many])), (q_h_steps_numbers, .inl (K.2.2.1, 50, .inl v_steps_numbers)), (q_h_bytes_numbers, .inl (K.2.2.1, 50, .inl v_bytes_numbers))] sz) := by
  have hw := ug_X2_readsLevel hw
  refine Met.ofW (cc := cX2_readsLevel) (maxL := 6) (ret := (some .boolean)) (by decide) rfl ?_
  intro p e s m args below meth c s₁ B hml hv
  obtain ⟨rfl, hsz, hP, hK, hD0, hG, hR⟩ := hv
  have hx := B.exec
  have hb := B.bytes
  have hr := B.returns
  have hts : ∀ w ∈ vT, w.before _ s = true := fun w h => atoms_spec (ws := .code yX2_readsLevel cX2_readsLevel 6 (some .boolean) :: vT) B.pre w (List.mem_cons_of_mem _ h)
  have hown : s.vm.findClass RX2 = some m.cls := findClass_of_methodNamed B.named
  have hlocks := B.notSynchronized
  subst hsz
  have hD := hD0.self (sz := s.heap.size)
  show W p l e (rmg_X2_readsLevel (d + 1)) s m _ below meth c s.heap [] 0 0 _ _
  generalize hAe : va_A [(q_h, .inr (1, [.ref q_h_steps, .ref q_h_bytes, .ref (K.2.1.1 v_names), .int v_at])), (q_h_steps, .inr (2, [.ref q_h_steps_numbers, .int v_steps_many])), (q_h_bytes, .inr (2, [.ref q_h_bytes_numbers, .int v_bytes_many])), (q_h_steps_numbers, .inl (K.2.2.1, 50, .inl v_steps_numbers)), (q_h_bytes_numbers, .inl (K.2.2.1, 50, .inl v_bytes_numbers))] s.heap.size = A at hD hG ⊢
  have hX : vX K A s := ⟨hK, hG, hR, fun q h => by rw [← hAe]; exact Or.inr h⟩
  have hS : va_S A s.heap s.heap [] := va_S.rf
  have F : vFx p s m ([.ref q_h, .int a1, .int a2] : List Value).toArray meth c cX2_readsLevel RX2 6 (some .boolean) := ⟨hx, hb, hml, hown, hts, hr, hlocks⟩
  have hl := lv_entry ([.ref q_h, .int a1, .int a2]) (n := 6) (Nat.le_of_ble_eq_true rfl)
  rw [lg_entry_eq]
  generalize (lg_sl ([.ref q_h, .int a1, .int a2]) ++ List.replicate (6 - (lg_sl ([.ref q_h, .int a1, .int a2])).length) Slot.unset).toArray = ls at hl ⊢
  have hl : lv_has ls 6 [(0, .ref q_h), (1, .int a1), (2, .int a2)] := hl
  obtain ⟨H, hHe⟩ : ∃ H, H = s.heap := ⟨_, rfl⟩
  have hS : va_S A s.heap H [] := by rw [hHe]; exact hS
  have hP : va_P K.1 vwCl [(q_h, .inr (1, [.ref q_h_steps, .ref q_h_bytes, .ref (K.2.1.1 v_names), .int v_at])), (q_h_steps, .inr (2, [.ref q_h_steps_numbers, .int v_steps_many])), (q_h_bytes, .inr (2, [.ref q_h_bytes_numbers, .int v_bytes_many])), (q_h_steps_numbers, .inl (K.2.2.1, 50, .inl v_steps_numbers)), (q_h_bytes_numbers, .inl (K.2.2.1, 50, .inl v_bytes_numbers))] H := by rw [hHe]; exact hP
  refine vWH hHe ?_
  refine lv_iload_n hx hb dX2_readsLevel_0 rfl (lv_at hl 1 rfl) ?_
  refine lv_iconst (v := (5 : Int32)) hx hb dX2_readsLevel_1 (by decide) ?_
  refine lv_icmp_lt (tgt := 11) hx hb dX2_readsLevel_2 (by decide) (fun c_1 => ?_) (fun c_1 => ?_)
  · have hw := hw.1 c_1
    refine lv_aload_n hx hb dX2_readsLevel_11 rfl (lv_at hl 0 rfl) ?_
    refine lv_iload_n hx hb dX2_readsLevel_12 rfl (lv_at hl 1 rfl) ?_
    refine lv_iconst (v := (1 : Int32)) hx hb dX2_readsLevel_13 (by decide) ?_
    refine lv_iadd hx hb dX2_readsLevel_14 ?_
    refine lv_iload_n hx hb dX2_readsLevel_15 rfl (lv_at hl 2 rfl) ?_
    refine vCalli (K := K) (wr := []) (w1 := (fun (u : Int32 × Int32 × (Nat → Int32)) => [(q_h, .inr (1, [.ref q_h_steps, .ref q_h_bytes, .ref (K.2.1.1 v_names), .int u.1])), (q_h_steps, .inr (2, [.ref q_h_steps_numbers, .int u.2.1])), (q_h_bytes, .inr (2, [.ref q_h_bytes_numbers, .int v_bytes_many])), (q_h_steps_numbers, .inl (K.2.2.1, 50, .inl u.2.2)), (q_h_bytes_numbers, .inl (K.2.2.1, 50, .inl v_bytes_numbers))])) (va_runV (As := [.int (a1 + (1 : Int32)), .int a2]) (rest := []) ⟨hx, hb, hml, hown, hts⟩ (IH.1 K q_h q_h_steps q_h_bytes q_h_steps_numbers q_h_bytes_numbers H.size (a1 + (1 : Int32)) a2 v_names v_at v_steps_many v_bytes_many v_steps_numbers v_bytes_numbers _ hw) (cwV 2 hts (vGoodV k_445 k_447 k_2 k_62 k_448) rfl rfl rfl (by decide +kernel) ⟨by show (5 + d) + 1 ≤ 5 + (d + 1); omega, by show 8 + (6 + 11) + (107 + 25 * d) ≤ 107 + 25 * (d + 1); omega⟩) ⟨vPre_blind, va_recv hX.1 hP (ci := 1) (q0 := 0) rfl rfl, fun U hU hW => ⟨rfl, vPre_of hX hP hD hS [0, 1, 2, 3, 4] rfl (by decide) U hU hW⟩⟩ rfl rfl hl.1 rfl (lv_room (Nat.le_of_ble_eq_true rfl)) dX2_readsLevel_16 ⟨Nat.zero_le _, Nat.zero_le _⟩) hX hP hD hS [0, 1, 2, 3, 4] [] rfl rfl (by decide) (by decide) (fun r_5 u H locs hw hP hD hS => ?_)
    obtain ⟨v_at_2, v_steps_many_3, v_steps_numbers_4⟩ := u
    have hP : va_P K.1 vwCl [(q_h, .inr (1, [.ref q_h_steps, .ref q_h_bytes, .ref (K.2.1.1 v_names), .int v_at_2])), (q_h_steps, .inr (2, [.ref q_h_steps_numbers, .int v_steps_many_3])), (q_h_bytes, .inr (2, [.ref q_h_bytes_numbers, .int v_bytes_many])), (q_h_steps_numbers, .inl (K.2.2.1, 50, .inl v_steps_numbers_4)), (q_h_bytes_numbers, .inl (K.2.2.1, 50, .inl v_bytes_numbers))] H := hP.sub [0, 1, 2, 3, 4] rfl
    have hD : va_D A [(q_h, .inr (1, [.ref q_h_steps, .ref q_h_bytes, .ref (K.2.1.1 v_names), .int v_at_2])), (q_h_steps, .inr (2, [.ref q_h_steps_numbers, .int v_steps_many_3])), (q_h_bytes, .inr (2, [.ref q_h_bytes_numbers, .int v_bytes_many])), (q_h_steps_numbers, .inl (K.2.2.1, 50, .inl v_steps_numbers_4)), (q_h_bytes_numbers, .inl (K.2.2.1, 50, .inl v_bytes_numbers))] := hD.sub [0, 1, 2, 3, 4] (by decide) rfl
    have hz_r_5 := hw.1
    have hw := hw.2
    refine lv_if_ne (tgt := 24) hx hb dX2_readsLevel_19 (by decide) (fun c_6 => ?_) (fun c_6 => ?_)
    · have hw := hw.2 c_6
      refine lv_iload_n hx hb dX2_readsLevel_24 rfl (lv_at hl 1 rfl) ?_
      refine lv_iconst (v := (2 : Int32)) hx hb dX2_readsLevel_25 (by decide) ?_
      refine lv_icmp_ne (tgt := 33) hx hb dX2_readsLevel_26 (by decide) (fun c_7 => ?_) (fun c_7 => ?_)
      · have hw := hw.2 c_7
        refine lv_bipush (v := (50 : Int32)) hx hb dX2_readsLevel_33 (by decide) ?_
        refine lv_istore_n (lv' := [(3, .int (50 : Int32)), (0, .ref q_h), (1, .int a1), (2, .int a2)]) hx hb dX2_readsLevel_35 rfl hl (by decide) rfl (fun ls hl => ?_)
        refine lv_iconst (v := (0 : Int32)) hx hb dX2_readsLevel_36 (by decide) ?_
        refine lv_istore (lv' := [(4, .int (0 : Int32)), (3, .int (50 : Int32)), (0, .ref q_h), (1, .int a1), (2, .int a2)]) hx hb dX2_readsLevel_37 hl (by decide) rfl (fun ls hl => ?_)
        obtain ⟨k, hw⟩ := hw
        exact t_X2_readsLevel_b39 F hX IH k _ _ _ _ _ _ _ _ hw hP hD hS (lv_sub hl [2, 3, 4, 1, 0] rfl)
      · have hw := hw.1 c_7
        refine lv_iconst (v := (1 : Int32)) hx hb dX2_readsLevel_29 (by decide) ?_
        refine lv_goto (tgt := 35) hx hb dX2_readsLevel_30 (by decide) ?_
        refine lv_istore_n (lv' := [(3, .int (1 : Int32)), (0, .ref q_h), (1, .int a1), (2, .int a2)]) hx hb dX2_readsLevel_35 rfl hl (by decide) rfl (fun ls hl => ?_)
        refine lv_iconst (v := (0 : Int32)) hx hb dX2_readsLevel_36 (by decide) ?_
        refine lv_istore (lv' := [(4, .int (0 : Int32)), (3, .int (1 : Int32)), (0, .ref q_h), (1, .int a1), (2, .int a2)]) hx hb dX2_readsLevel_37 hl (by decide) rfl (fun ls hl => ?_)
        obtain ⟨k, hw⟩ := hw
        exact t_X2_readsLevel_b39 F hX IH k _ _ _ _ _ _ _ _ hw hP hD hS (lv_sub hl [2, 3, 4, 1, 0] rfl)
    · have hw := hw.1 c_6
      refine lv_iconst (v := (0 : Int32)) hx hb dX2_readsLevel_22 (by decide) ?_
      exact W.zret (v := (0 : Int32)) hx hb hr vZ0 (fun t ht hW => ⟨⟨(0 : Int32), (v_at_2, v_steps_many_3, v_steps_numbers_4), rfl, ⟨Or.inl rfl, hw⟩, by rw [ht]; exact hP, va_K.moved hW.alike hX.1, hD⟩, hS.F ht⟩) hS.2.2 dX2_readsLevel_23 hlocks
  · have hw := hw.2 c_1
    refine lv_aload_n hx hb dX2_readsLevel_5 rfl (lv_at hl 0 rfl) ?_
    refine lv_iload_n hx hb dX2_readsLevel_6 rfl (lv_at hl 2 rfl) ?_
    refine vCalli (K := K) (wr := []) (w1 := (fun (u : Int32 × Int32 × (Nat → Int32)) => [(q_h, .inr (1, [.ref q_h_steps, .ref q_h_bytes, .ref (K.2.1.1 v_names), .int u.1])), (q_h_steps, .inr (2, [.ref q_h_steps_numbers, .int u.2.1])), (q_h_bytes, .inr (2, [.ref q_h_bytes_numbers, .int v_bytes_many])), (q_h_steps_numbers, .inl (K.2.2.1, 50, .inl u.2.2)), (q_h_bytes_numbers, .inl (K.2.2.1, 50, .inl v_bytes_numbers))])) (va_runV (As := [.int a2]) (rest := []) ⟨hx, hb, hml, hown, hts⟩ (IH.2 K q_h q_h_steps q_h_bytes q_h_steps_numbers q_h_bytes_numbers H.size a2 v_names v_at v_steps_many v_bytes_many v_steps_numbers v_bytes_numbers _ hw) (cwV 1 hts (vGoodV k_449 k_451 k_3 k_62 k_452) rfl rfl rfl (by decide +kernel) ⟨by show (5 + d) + 1 ≤ 5 + (d + 1); omega, by show 8 + (3 + 11) + (107 + 25 * d) ≤ 107 + 25 * (d + 1); omega⟩) ⟨vPre_blind, va_recv hX.1 hP (ci := 1) (q0 := 0) rfl rfl, fun U hU hW => ⟨rfl, vPre_of hX hP hD hS [0, 1, 2, 3, 4] rfl (by decide) U hU hW⟩⟩ rfl rfl hl.1 rfl (lv_room (Nat.le_of_ble_eq_true rfl)) dX2_readsLevel_7 ⟨Nat.zero_le _, Nat.zero_le _⟩) hX hP hD hS [0, 1, 2, 3, 4] [] rfl rfl (by decide) (by decide) (fun r_24 u H locs hw hP hD hS => ?_)
    obtain ⟨v_at_21, v_steps_many_22, v_steps_numbers_23⟩ := u
    have hP : va_P K.1 vwCl [(q_h, .inr (1, [.ref q_h_steps, .ref q_h_bytes, .ref (K.2.1.1 v_names), .int v_at_21])), (q_h_steps, .inr (2, [.ref q_h_steps_numbers, .int v_steps_many_22])), (q_h_bytes, .inr (2, [.ref q_h_bytes_numbers, .int v_bytes_many])), (q_h_steps_numbers, .inl (K.2.2.1, 50, .inl v_steps_numbers_23)), (q_h_bytes_numbers, .inl (K.2.2.1, 50, .inl v_bytes_numbers))] H := hP.sub [0, 1, 2, 3, 4] rfl
    have hD : va_D A [(q_h, .inr (1, [.ref q_h_steps, .ref q_h_bytes, .ref (K.2.1.1 v_names), .int v_at_21])), (q_h_steps, .inr (2, [.ref q_h_steps_numbers, .int v_steps_many_22])), (q_h_bytes, .inr (2, [.ref q_h_bytes_numbers, .int v_bytes_many])), (q_h_steps_numbers, .inl (K.2.2.1, 50, .inl v_steps_numbers_23)), (q_h_bytes_numbers, .inl (K.2.2.1, 50, .inl v_bytes_numbers))] := hD.sub [0, 1, 2, 3, 4] (by decide) rfl
    have hz_r_24 := hw.1
    have hw := hw.2
    exact W.zret (v := r_24) hx hb hr (vZb hz_r_24) (fun t ht hW => ⟨⟨r_24, (v_at_21, v_steps_many_22, v_steps_numbers_23), rfl, ⟨hz_r_24, hw⟩, by rw [ht]; exact hP, va_K.moved hW.alike hX.1, hD⟩, hS.F ht⟩) hS.2.2 dX2_readsLevel_10 hlocks
set_option maxHeartbeats 4000000 in
set_option maxRecDepth 100000 in
theorem cs_X2_readsPart (l : Launch) (d : Nat) (IH : IH_X2_readsLevel l d) (K : vGl) (q_h q_h_steps q_h_bytes q_h_steps_numbers q_h_bytes_numbers : Nat)  (sz : Nat) (a1 : Int32) (v_names : Nat) (v_at : Int32) (v_steps_many : Int32) (v_bytes_many : Int32) (v_steps_numbers : Nat → Int32) (v_bytes_numbers : Nat → Int32) (post : Int32 → Int32 → Int32 → (Nat → Int32) → Prop) (hw : wpg_X2_readsLevel (d + 1) 1 a1 (0 : Int32) v_names v_at v_steps_many v_bytes_many v_steps_numbers v_bytes_numbers post) : Met l yX2_readsPart (.code yX2_readsPart cX2_readsPart 3 (some .boolean) :: vT) (rmg_X2_readsLevel (d + 1)) (va_Pc [.ref q_h, .int a1] (vPre K [(q_h, .inr (1, [.ref q_h_steps, .ref q_h_bytes, .ref (K.2.1.1 v_names), .int v_at])), (q_h_steps, .inr (2, [.ref q_h_steps_numbers, .int v_steps_many])), (q_h_bytes, .inr (2, [.ref q_h_bytes_numbers, .int v_bytes_many])), (q_h_steps_numbers, .inl (K.2.2.1, 50, .inl v_steps_numbers)), (q_h_bytes_numbers, .inl (K.2.2.1, 50, .inl v_bytes_numbers))] sz)) (Qc_X2_readsPart K q_h q_h_steps q_h_bytes q_h_steps_numbers q_h_bytes_numbers v_names v_bytes_many v_bytes_numbers post (va_A [(q_h, .inr (1, [.ref q_h_steps, .ref q_h_bytes, .ref (K.2.1.1 v_names), .int v_at])), (q_h_steps, .inr (2, [.ref q_h_steps_numbers, .int v_steps_many])), (q_h_bytes, .inr (2, [.ref q_h_bytes_numbers, .int v_bytes_many])), (q_h_steps_numbers, .inl (K.2.2.1, 50, .inl v_steps_numbers)), (q_h_bytes_numbers, .inl (K.2.2.1, 50, .inl v_bytes_numbers))] sz)) 0 0 (va_A [(q_h, .inr (1, [.ref q_h_steps, .ref q_h_bytes, .ref (K.2.1.1 v_names), .int v_at])), (q_h_steps, .inr (2, [.ref q_h_steps_numbers, .int v_steps_many])), (q_h_bytes, .inr (2, [.ref q_h_bytes_numbers, .int v_bytes_many])), (q_h_steps_numbers, .inl (K.2.2.1, 50, .inl v_steps_numbers)), (q_h_bytes_numbers, .inl (K.2.2.1, 50, .inl v_bytes_numbers))] sz) := by
  have hw := ug_X2_readsPart hw
  refine Met.ofW (cc := cX2_readsPart) (maxL := 3) (ret := (some .boolean)) (by decide) rfl ?_
  intro p e s m args below meth c s₁ B hml hv
  obtain ⟨rfl, hsz, hP, hK, hD0, hG, hR⟩ := hv
  have hx := B.exec
  have hb := B.bytes
  have hr := B.returns
  have hts : ∀ w ∈ vT, w.before _ s = true := fun w h => atoms_spec (ws := .code yX2_readsPart cX2_readsPart 3 (some .boolean) :: vT) B.pre w (List.mem_cons_of_mem _ h)
  have hown : s.vm.findClass RX2 = some m.cls := findClass_of_methodNamed B.named
  have hlocks := B.notSynchronized
  subst hsz
  have hD := hD0.self (sz := s.heap.size)
  show W p l e (rmg_X2_readsLevel (d + 1)) s m _ below meth c s.heap [] 0 0 _ _
  generalize hAe : va_A [(q_h, .inr (1, [.ref q_h_steps, .ref q_h_bytes, .ref (K.2.1.1 v_names), .int v_at])), (q_h_steps, .inr (2, [.ref q_h_steps_numbers, .int v_steps_many])), (q_h_bytes, .inr (2, [.ref q_h_bytes_numbers, .int v_bytes_many])), (q_h_steps_numbers, .inl (K.2.2.1, 50, .inl v_steps_numbers)), (q_h_bytes_numbers, .inl (K.2.2.1, 50, .inl v_bytes_numbers))] s.heap.size = A at hD hG ⊢
  have hX : vX K A s := ⟨hK, hG, hR, fun q h => by rw [← hAe]; exact Or.inr h⟩
  have hS : va_S A s.heap s.heap [] := va_S.rf
  have F : vFx p s m ([.ref q_h, .int a1] : List Value).toArray meth c cX2_readsPart RX2 3 (some .boolean) := ⟨hx, hb, hml, hown, hts, hr, hlocks⟩
  have hl := lv_entry ([.ref q_h, .int a1]) (n := 3) (Nat.le_of_ble_eq_true rfl)
  rw [lg_entry_eq]
  generalize (lg_sl ([.ref q_h, .int a1]) ++ List.replicate (3 - (lg_sl ([.ref q_h, .int a1])).length) Slot.unset).toArray = ls at hl ⊢
  have hl : lv_has ls 3 [(0, .ref q_h), (1, .int a1)] := hl
  obtain ⟨H, hHe⟩ : ∃ H, H = s.heap := ⟨_, rfl⟩
  have hS : va_S A s.heap H [] := by rw [hHe]; exact hS
  have hP : va_P K.1 vwCl [(q_h, .inr (1, [.ref q_h_steps, .ref q_h_bytes, .ref (K.2.1.1 v_names), .int v_at])), (q_h_steps, .inr (2, [.ref q_h_steps_numbers, .int v_steps_many])), (q_h_bytes, .inr (2, [.ref q_h_bytes_numbers, .int v_bytes_many])), (q_h_steps_numbers, .inl (K.2.2.1, 50, .inl v_steps_numbers)), (q_h_bytes_numbers, .inl (K.2.2.1, 50, .inl v_bytes_numbers))] H := by rw [hHe]; exact hP
  refine vWH hHe ?_
  refine lv_aload_n hx hb dX2_readsPart_0 rfl (lv_at hl 0 rfl) ?_
  refine vCalli (K := K) (wr := [(q_h_steps, .inr (2, [.ref q_h_steps_numbers, .int v_steps_many])), (q_h_steps_numbers, .inl (K.2.2.1, 50, .inl v_steps_numbers))]) (w1 := (fun _ => [(q_h, .inr (1, [(.ref q_h_steps), .ref q_h_bytes, (.ref (K.2.1.1 v_names)), .int v_at])), (q_h_bytes, .inr (2, [.ref q_h_bytes_numbers, .int v_bytes_many])), (q_h_bytes_numbers, .inl (K.2.2.1, 50, .inl v_bytes_numbers))])) (va_runV (As := []) (rest := []) ⟨hx, hb, hml, hown, hts⟩ (c_X2_next l K q_h q_h_bytes q_h_bytes_numbers (.ref q_h_steps) (.ref (K.2.1.1 v_names)) H.size v_at v_bytes_many v_bytes_numbers _ hw) (cwV 0 hts (vGoodV k_453 k_455 k_4 k_62 k_456) rfl rfl rfl (by decide +kernel) ⟨by show 1 + 1 ≤ 5 + (d + 1); omega, by show 8 + (1 + 11) + 21 ≤ 107 + 25 * (d + 1); omega⟩) ⟨vPre_blind, va_recv hX.1 hP (ci := 1) (q0 := 0) rfl rfl, fun U hU hW => ⟨rfl, vPre_of hX hP hD hS [0, 2, 4] rfl (by decide) U hU hW⟩⟩ rfl rfl hl.1 rfl (lv_room (Nat.le_of_ble_eq_true rfl)) dX2_readsPart_1 ⟨Nat.zero_le _, Nat.zero_le _⟩) hX hP hD hS [0, 2, 4] [1, 3] rfl rfl (by decide) (by decide) (fun r_1 u H locs hw hP hD hS => ?_)
  have hP : va_P K.1 vwCl [(q_h, .inr (1, [.ref q_h_steps, .ref q_h_bytes, .ref (K.2.1.1 v_names), .int v_at])), (q_h_steps, .inr (2, [.ref q_h_steps_numbers, .int v_steps_many])), (q_h_bytes, .inr (2, [.ref q_h_bytes_numbers, .int v_bytes_many])), (q_h_steps_numbers, .inl (K.2.2.1, 50, .inl v_steps_numbers)), (q_h_bytes_numbers, .inl (K.2.2.1, 50, .inl v_bytes_numbers))] H := hP.sub [2, 0, 3, 1, 4] rfl
  have hD : va_D A [(q_h, .inr (1, [.ref q_h_steps, .ref q_h_bytes, .ref (K.2.1.1 v_names), .int v_at])), (q_h_steps, .inr (2, [.ref q_h_steps_numbers, .int v_steps_many])), (q_h_bytes, .inr (2, [.ref q_h_bytes_numbers, .int v_bytes_many])), (q_h_steps_numbers, .inl (K.2.2.1, 50, .inl v_steps_numbers)), (q_h_bytes_numbers, .inl (K.2.2.1, 50, .inl v_bytes_numbers))] := hD.sub [2, 0, 3, 1, 4] (by decide) rfl
  refine lv_istore_n (lv' := [(2, .int r_1), (0, .ref q_h), (1, .int a1)]) hx hb dX2_readsPart_4 rfl hl (by decide) rfl (fun ls hl => ?_)
  refine lv_iload_n hx hb dX2_readsPart_5 rfl (lv_at hl 0 rfl) ?_
  refine lv_bipush (v := (48 : Int32)) hx hb dX2_readsPart_6 (by decide) ?_
  refine lv_icmp_lt (tgt := 23) hx hb dX2_readsPart_8 (by decide) (fun c_2 => ?_) (fun c_2 => ?_)
  · have hw := hw.1 c_2
    refine lv_iload_n hx hb dX2_readsPart_23 rfl (lv_at hl 0 rfl) ?_
    refine lv_bipush (v := (33 : Int32)) hx hb dX2_readsPart_24 (by decide) ?_
    refine lv_icmp_eq (tgt := 41) hx hb dX2_readsPart_26 (by decide) (fun c_3 => ?_) (fun c_3 => ?_)
    · have hw := hw.1 c_3
      exact t_X2_readsPart_b41 F hX IH _ _ _ _ _ _ _ hw hP hD hS (lv_sub hl [1, 2, 0] rfl)
    · have hw := hw.2 c_3
      refine lv_iload_n hx hb dX2_readsPart_29 rfl (lv_at hl 0 rfl) ?_
      refine lv_bipush (v := (40 : Int32)) hx hb dX2_readsPart_30 (by decide) ?_
      refine lv_icmp_eq (tgt := 41) hx hb dX2_readsPart_32 (by decide) (fun c_22 => ?_) (fun c_22 => ?_)
      · have hw := hw.1 c_22
        exact t_X2_readsPart_b41 F hX IH _ _ _ _ _ _ _ hw hP hD hS (lv_sub hl [1, 2, 0] rfl)
      · have hw := hw.2 c_22
        refine lv_aload_n hx hb dX2_readsPart_35 rfl (lv_at hl 1 rfl) ?_
        refine lv_iload_n hx hb dX2_readsPart_36 rfl (lv_at hl 0 rfl) ?_
        refine vCalli (K := K) (wr := [(q_h_bytes, .inr (2, [.ref q_h_bytes_numbers, .int v_bytes_many])), (q_h_bytes_numbers, .inl (K.2.2.1, 50, .inl v_bytes_numbers))]) (w1 := (fun (u : Int32 × Int32 × (Nat → Int32)) => [(q_h, .inr (1, [.ref q_h_steps, (.ref q_h_bytes), .ref (K.2.1.1 v_names), .int u.1])), (q_h_steps, .inr (2, [.ref q_h_steps_numbers, .int u.2.1])), (q_h_steps_numbers, .inl (K.2.2.1, 50, .inl u.2.2))])) (va_runV (As := [.int r_1]) (rest := []) ⟨hx, hb, hml, hown, hts⟩ (c_X2_readsName l K q_h q_h_steps q_h_steps_numbers (.ref q_h_bytes) H.size r_1 v_names v_at v_steps_many v_steps_numbers _ hw) (cwV 1 hts (vGoodV k_466 k_468 k_6 k_62 k_469) rfl rfl rfl (by decide +kernel) ⟨by show 4 + 1 ≤ 5 + (d + 1); omega, by show 8 + (3 + 11) + 85 ≤ 107 + 25 * (d + 1); omega⟩) ⟨vPre_blind, va_recv hX.1 hP (ci := 1) (q0 := 0) rfl rfl, fun U hU hW => ⟨rfl, vPre_of hX hP hD hS [0, 1, 3] rfl (by decide) U hU hW⟩⟩ rfl rfl hl.1 rfl (lv_room (Nat.le_of_ble_eq_true rfl)) dX2_readsPart_37 ⟨Nat.zero_le _, Nat.zero_le _⟩) hX hP hD hS [0, 1, 3] [2, 4] rfl rfl (by decide) (by decide) (fun r_26 u H locs hw hP hD hS => ?_)
        obtain ⟨v_at_23, v_steps_many_24, v_steps_numbers_25⟩ := u
        have hP : va_P K.1 vwCl [(q_h, .inr (1, [.ref q_h_steps, .ref q_h_bytes, .ref (K.2.1.1 v_names), .int v_at_23])), (q_h_steps, .inr (2, [.ref q_h_steps_numbers, .int v_steps_many_24])), (q_h_bytes, .inr (2, [.ref q_h_bytes_numbers, .int v_bytes_many])), (q_h_steps_numbers, .inl (K.2.2.1, 50, .inl v_steps_numbers_25)), (q_h_bytes_numbers, .inl (K.2.2.1, 50, .inl v_bytes_numbers))] H := hP.sub [2, 3, 0, 4, 1] rfl
        have hD : va_D A [(q_h, .inr (1, [.ref q_h_steps, .ref q_h_bytes, .ref (K.2.1.1 v_names), .int v_at_23])), (q_h_steps, .inr (2, [.ref q_h_steps_numbers, .int v_steps_many_24])), (q_h_bytes, .inr (2, [.ref q_h_bytes_numbers, .int v_bytes_many])), (q_h_steps_numbers, .inl (K.2.2.1, 50, .inl v_steps_numbers_25)), (q_h_bytes_numbers, .inl (K.2.2.1, 50, .inl v_bytes_numbers))] := hD.sub [2, 3, 0, 4, 1] (by decide) rfl
        have hz_r_26 := hw.1
        have hw := hw.2
        exact W.zret (v := r_26) hx hb hr (vZb hz_r_26) (fun t ht hW => ⟨⟨r_26, (v_at_23, v_steps_many_24, v_steps_numbers_25), rfl, ⟨hz_r_26, hw⟩, by rw [ht]; exact hP, va_K.moved hW.alike hX.1, hD⟩, hS.F ht⟩) hS.2.2 dX2_readsPart_40 hlocks
  · have hw := hw.2 c_2
    refine lv_iload_n hx hb dX2_readsPart_11 rfl (lv_at hl 0 rfl) ?_
    refine lv_bipush (v := (57 : Int32)) hx hb dX2_readsPart_12 (by decide) ?_
    refine lv_icmp_gt (tgt := 23) hx hb dX2_readsPart_14 (by decide) (fun c_27 => ?_) (fun c_27 => ?_)
    · have hw := hw.1 c_27
      refine lv_iload_n hx hb dX2_readsPart_23 rfl (lv_at hl 0 rfl) ?_
      refine lv_bipush (v := (33 : Int32)) hx hb dX2_readsPart_24 (by decide) ?_
      refine lv_icmp_eq (tgt := 41) hx hb dX2_readsPart_26 (by decide) (fun c_28 => ?_) (fun c_28 => ?_)
      · have hw := hw.1 c_28
        exact t_X2_readsPart_b41 F hX IH _ _ _ _ _ _ _ hw hP hD hS (lv_sub hl [1, 2, 0] rfl)
      · have hw := hw.2 c_28
        refine lv_iload_n hx hb dX2_readsPart_29 rfl (lv_at hl 0 rfl) ?_
        refine lv_bipush (v := (40 : Int32)) hx hb dX2_readsPart_30 (by decide) ?_
        refine lv_icmp_eq (tgt := 41) hx hb dX2_readsPart_32 (by decide) (fun c_29 => ?_) (fun c_29 => ?_)
        · have hw := hw.1 c_29
          exact t_X2_readsPart_b41 F hX IH _ _ _ _ _ _ _ hw hP hD hS (lv_sub hl [1, 2, 0] rfl)
        · have hw := hw.2 c_29
          refine lv_aload_n hx hb dX2_readsPart_35 rfl (lv_at hl 1 rfl) ?_
          refine lv_iload_n hx hb dX2_readsPart_36 rfl (lv_at hl 0 rfl) ?_
          refine vCalli (K := K) (wr := [(q_h_bytes, .inr (2, [.ref q_h_bytes_numbers, .int v_bytes_many])), (q_h_bytes_numbers, .inl (K.2.2.1, 50, .inl v_bytes_numbers))]) (w1 := (fun (u : Int32 × Int32 × (Nat → Int32)) => [(q_h, .inr (1, [.ref q_h_steps, (.ref q_h_bytes), .ref (K.2.1.1 v_names), .int u.1])), (q_h_steps, .inr (2, [.ref q_h_steps_numbers, .int u.2.1])), (q_h_steps_numbers, .inl (K.2.2.1, 50, .inl u.2.2))])) (va_runV (As := [.int r_1]) (rest := []) ⟨hx, hb, hml, hown, hts⟩ (c_X2_readsName l K q_h q_h_steps q_h_steps_numbers (.ref q_h_bytes) H.size r_1 v_names v_at v_steps_many v_steps_numbers _ hw) (cwV 1 hts (vGoodV k_466 k_468 k_6 k_62 k_469) rfl rfl rfl (by decide +kernel) ⟨by show 4 + 1 ≤ 5 + (d + 1); omega, by show 8 + (3 + 11) + 85 ≤ 107 + 25 * (d + 1); omega⟩) ⟨vPre_blind, va_recv hX.1 hP (ci := 1) (q0 := 0) rfl rfl, fun U hU hW => ⟨rfl, vPre_of hX hP hD hS [0, 1, 3] rfl (by decide) U hU hW⟩⟩ rfl rfl hl.1 rfl (lv_room (Nat.le_of_ble_eq_true rfl)) dX2_readsPart_37 ⟨Nat.zero_le _, Nat.zero_le _⟩) hX hP hD hS [0, 1, 3] [2, 4] rfl rfl (by decide) (by decide) (fun r_33 u H locs hw hP hD hS => ?_)
          obtain ⟨v_at_30, v_steps_many_31, v_steps_numbers_32⟩ := u
          have hP : va_P K.1 vwCl [(q_h, .inr (1, [.ref q_h_steps, .ref q_h_bytes, .ref (K.2.1.1 v_names), .int v_at_30])), (q_h_steps, .inr (2, [.ref q_h_steps_numbers, .int v_steps_many_31])), (q_h_bytes, .inr (2, [.ref q_h_bytes_numbers, .int v_bytes_many])), (q_h_steps_numbers, .inl (K.2.2.1, 50, .inl v_steps_numbers_32)), (q_h_bytes_numbers, .inl (K.2.2.1, 50, .inl v_bytes_numbers))] H := hP.sub [2, 3, 0, 4, 1] rfl
          have hD : va_D A [(q_h, .inr (1, [.ref q_h_steps, .ref q_h_bytes, .ref (K.2.1.1 v_names), .int v_at_30])), (q_h_steps, .inr (2, [.ref q_h_steps_numbers, .int v_steps_many_31])), (q_h_bytes, .inr (2, [.ref q_h_bytes_numbers, .int v_bytes_many])), (q_h_steps_numbers, .inl (K.2.2.1, 50, .inl v_steps_numbers_32)), (q_h_bytes_numbers, .inl (K.2.2.1, 50, .inl v_bytes_numbers))] := hD.sub [2, 3, 0, 4, 1] (by decide) rfl
          have hz_r_33 := hw.1
          have hw := hw.2
          exact W.zret (v := r_33) hx hb hr (vZb hz_r_33) (fun t ht hW => ⟨⟨r_33, (v_at_30, v_steps_many_31, v_steps_numbers_32), rfl, ⟨hz_r_33, hw⟩, by rw [ht]; exact hP, va_K.moved hW.alike hX.1, hD⟩, hS.F ht⟩) hS.2.2 dX2_readsPart_40 hlocks
    · have hw := hw.2 c_27
      refine lv_aload_n hx hb dX2_readsPart_17 rfl (lv_at hl 1 rfl) ?_
      refine vCallv (K := K) (wr := []) (w1 := (fun (u : Int32 × Int32 × (Nat → Int32)) => [(q_h, .inr (1, [.ref q_h_steps, .ref q_h_bytes, (.ref (K.2.1.1 v_names)), .int u.1])), (q_h_steps, .inr (2, [.ref q_h_steps_numbers, .int u.2.1])), (q_h_bytes, .inr (2, [.ref q_h_bytes_numbers, .int v_bytes_many])), (q_h_steps_numbers, .inl (K.2.2.1, 50, .inl u.2.2)), (q_h_bytes_numbers, .inl (K.2.2.1, 50, .inl v_bytes_numbers))])) (va_runV (As := []) (rest := []) ⟨hx, hb, hml, hown, hts⟩ (c_X2_readNumber l K q_h q_h_steps q_h_bytes q_h_steps_numbers q_h_bytes_numbers (.ref (K.2.1.1 v_names)) H.size v_at v_steps_many v_bytes_many v_steps_numbers v_bytes_numbers _ hw) (cwV 0 hts (vGoodV k_461 k_463 k_5 k_62 k_464) rfl rfl rfl (by decide +kernel) ⟨by show 2 + 1 ≤ 5 + (d + 1); omega, by show 8 + (3 + 11) + 41 ≤ 107 + 25 * (d + 1); omega⟩) ⟨vPre_blind, va_recv hX.1 hP (ci := 1) (q0 := 0) rfl rfl, fun U hU hW => ⟨rfl, vPre_of hX hP hD hS [0, 1, 2, 3, 4] rfl (by decide) U hU hW⟩⟩ rfl rfl hl.1 rfl (lv_room (Nat.le_of_ble_eq_true rfl)) dX2_readsPart_18 ⟨Nat.zero_le _, Nat.zero_le _⟩) hX hP hD hS [0, 1, 2, 3, 4] [] rfl rfl (by decide) (by decide) (fun u H locs hw hP hD hS => ?_)
      obtain ⟨v_at_34, v_steps_many_35, v_steps_numbers_36⟩ := u
      have hP : va_P K.1 vwCl [(q_h, .inr (1, [.ref q_h_steps, .ref q_h_bytes, .ref (K.2.1.1 v_names), .int v_at_34])), (q_h_steps, .inr (2, [.ref q_h_steps_numbers, .int v_steps_many_35])), (q_h_bytes, .inr (2, [.ref q_h_bytes_numbers, .int v_bytes_many])), (q_h_steps_numbers, .inl (K.2.2.1, 50, .inl v_steps_numbers_36)), (q_h_bytes_numbers, .inl (K.2.2.1, 50, .inl v_bytes_numbers))] H := hP.sub [0, 1, 2, 3, 4] rfl
      have hD : va_D A [(q_h, .inr (1, [.ref q_h_steps, .ref q_h_bytes, .ref (K.2.1.1 v_names), .int v_at_34])), (q_h_steps, .inr (2, [.ref q_h_steps_numbers, .int v_steps_many_35])), (q_h_bytes, .inr (2, [.ref q_h_bytes_numbers, .int v_bytes_many])), (q_h_steps_numbers, .inl (K.2.2.1, 50, .inl v_steps_numbers_36)), (q_h_bytes_numbers, .inl (K.2.2.1, 50, .inl v_bytes_numbers))] := hD.sub [0, 1, 2, 3, 4] (by decide) rfl
      refine lv_iconst (v := (1 : Int32)) hx hb dX2_readsPart_21 (by decide) ?_
      exact W.zret (v := (1 : Int32)) hx hb hr vZ1 (fun t ht hW => ⟨⟨(1 : Int32), (v_at_34, v_steps_many_35, v_steps_numbers_36), rfl, ⟨Or.inr rfl, hw⟩, by rw [ht]; exact hP, va_K.moved hW.alike hX.1, hD⟩, hS.F ht⟩) hS.2.2 dX2_readsPart_22 hlocks
theorem cg_X2_readsLevel (l : Launch) : ∀ d : Nat, IH_X2_readsLevel l d := by
  intro d
  induction d with
  | zero => exact ⟨fun K q_h q_h_steps q_h_bytes q_h_steps_numbers q_h_bytes_numbers sz a1 a2 v_names v_at v_steps_many v_bytes_many v_steps_numbers v_bytes_numbers post hw => False.elim hw, fun K q_h q_h_steps q_h_bytes q_h_steps_numbers q_h_bytes_numbers sz a1 v_names v_at v_steps_many v_bytes_many v_steps_numbers v_bytes_numbers post hw => False.elim hw⟩
  | succ d ih => exact ⟨fun K q_h q_h_steps q_h_bytes q_h_steps_numbers q_h_bytes_numbers sz a1 a2 v_names v_at v_steps_many v_bytes_many v_steps_numbers v_bytes_numbers post hw => cs_X2_readsLevel l d ih K q_h q_h_steps q_h_bytes q_h_steps_numbers q_h_bytes_numbers sz a1 a2 v_names v_at v_steps_many v_bytes_many v_steps_numbers v_bytes_numbers post hw, fun K q_h q_h_steps q_h_bytes q_h_steps_numbers q_h_bytes_numbers sz a1 v_names v_at v_steps_many v_bytes_many v_steps_numbers v_bytes_numbers post hw => cs_X2_readsPart l d ih K q_h q_h_steps q_h_bytes q_h_steps_numbers q_h_bytes_numbers sz a1 v_names v_at v_steps_many v_bytes_many v_steps_numbers v_bytes_numbers post hw⟩
abbrev wp_X2_readsLevel (a1 : Int32) (a2 : Int32) (v_names : Nat) (v_at : Int32) (v_steps_many : Int32) (v_bytes_many : Int32) (v_steps_numbers : Nat → Int32) (v_bytes_numbers : Nat → Int32) (post : Int32 → Int32 → Int32 → (Nat → Int32) → Prop) : Prop := wpg_X2_readsLevel 45 0 a1 a2 v_names v_at v_steps_many v_bytes_many v_steps_numbers v_bytes_numbers post
theorem c_X2_readsLevel (l : Launch) (K : vGl) (q_h q_h_steps q_h_bytes q_h_steps_numbers q_h_bytes_numbers : Nat)  (sz : Nat) (a1 : Int32) (a2 : Int32) (v_names : Nat) (v_at : Int32) (v_steps_many : Int32) (v_bytes_many : Int32) (v_steps_numbers : Nat → Int32) (v_bytes_numbers : Nat → Int32) (post : Int32 → Int32 → Int32 → (Nat → Int32) → Prop) (hw : wp_X2_readsLevel a1 a2 v_names v_at v_steps_many v_bytes_many v_steps_numbers v_bytes_numbers post) : Met l yX2_readsLevel (.code yX2_readsLevel cX2_readsLevel 6 (some .boolean) :: vT) (rmg_X2_readsLevel 45) (va_Pc [.ref q_h, .int a1, .int a2] (vPre K [(q_h, .inr (1, [.ref q_h_steps, .ref q_h_bytes, .ref (K.2.1.1 v_names), .int v_at])), (q_h_steps, .inr (2, [.ref q_h_steps_numbers, .int v_steps_many])), (q_h_bytes, .inr (2, [.ref q_h_bytes_numbers, .int v_bytes_many])), (q_h_steps_numbers, .inl (K.2.2.1, 50, .inl v_steps_numbers)), (q_h_bytes_numbers, .inl (K.2.2.1, 50, .inl v_bytes_numbers))] sz)) (Qc_X2_readsLevel K q_h q_h_steps q_h_bytes q_h_steps_numbers q_h_bytes_numbers v_names v_bytes_many v_bytes_numbers post (va_A [(q_h, .inr (1, [.ref q_h_steps, .ref q_h_bytes, .ref (K.2.1.1 v_names), .int v_at])), (q_h_steps, .inr (2, [.ref q_h_steps_numbers, .int v_steps_many])), (q_h_bytes, .inr (2, [.ref q_h_bytes_numbers, .int v_bytes_many])), (q_h_steps_numbers, .inl (K.2.2.1, 50, .inl v_steps_numbers)), (q_h_bytes_numbers, .inl (K.2.2.1, 50, .inl v_bytes_numbers))] sz)) 0 0 (va_A [(q_h, .inr (1, [.ref q_h_steps, .ref q_h_bytes, .ref (K.2.1.1 v_names), .int v_at])), (q_h_steps, .inr (2, [.ref q_h_steps_numbers, .int v_steps_many])), (q_h_bytes, .inr (2, [.ref q_h_bytes_numbers, .int v_bytes_many])), (q_h_steps_numbers, .inl (K.2.2.1, 50, .inl v_steps_numbers)), (q_h_bytes_numbers, .inl (K.2.2.1, 50, .inl v_bytes_numbers))] sz) := (cg_X2_readsLevel l 45).1 K q_h q_h_steps q_h_bytes q_h_steps_numbers q_h_bytes_numbers sz a1 a2 v_names v_at v_steps_many v_bytes_many v_steps_numbers v_bytes_numbers post hw
abbrev wp_X2_readsPart (a1 : Int32) (v_names : Nat) (v_at : Int32) (v_steps_many : Int32) (v_bytes_many : Int32) (v_steps_numbers : Nat → Int32) (v_bytes_numbers : Nat → Int32) (post : Int32 → Int32 → Int32 → (Nat → Int32) → Prop) : Prop := wpg_X2_readsLevel 45 1 a1 (0 : Int32) v_names v_at v_steps_many v_bytes_many v_steps_numbers v_bytes_numbers post
theorem c_X2_readsPart (l : Launch) (K : vGl) (q_h q_h_steps q_h_bytes q_h_steps_numbers q_h_bytes_numbers : Nat)  (sz : Nat) (a1 : Int32) (v_names : Nat) (v_at : Int32) (v_steps_many : Int32) (v_bytes_many : Int32) (v_steps_numbers : Nat → Int32) (v_bytes_numbers : Nat → Int32) (post : Int32 → Int32 → Int32 → (Nat → Int32) → Prop) (hw : wp_X2_readsPart a1 v_names v_at v_steps_many v_bytes_many v_steps_numbers v_bytes_numbers post) : Met l yX2_readsPart (.code yX2_readsPart cX2_readsPart 3 (some .boolean) :: vT) (rmg_X2_readsLevel 45) (va_Pc [.ref q_h, .int a1] (vPre K [(q_h, .inr (1, [.ref q_h_steps, .ref q_h_bytes, .ref (K.2.1.1 v_names), .int v_at])), (q_h_steps, .inr (2, [.ref q_h_steps_numbers, .int v_steps_many])), (q_h_bytes, .inr (2, [.ref q_h_bytes_numbers, .int v_bytes_many])), (q_h_steps_numbers, .inl (K.2.2.1, 50, .inl v_steps_numbers)), (q_h_bytes_numbers, .inl (K.2.2.1, 50, .inl v_bytes_numbers))] sz)) (Qc_X2_readsPart K q_h q_h_steps q_h_bytes q_h_steps_numbers q_h_bytes_numbers v_names v_bytes_many v_bytes_numbers post (va_A [(q_h, .inr (1, [.ref q_h_steps, .ref q_h_bytes, .ref (K.2.1.1 v_names), .int v_at])), (q_h_steps, .inr (2, [.ref q_h_steps_numbers, .int v_steps_many])), (q_h_bytes, .inr (2, [.ref q_h_bytes_numbers, .int v_bytes_many])), (q_h_steps_numbers, .inl (K.2.2.1, 50, .inl v_steps_numbers)), (q_h_bytes_numbers, .inl (K.2.2.1, 50, .inl v_bytes_numbers))] sz)) 0 0 (va_A [(q_h, .inr (1, [.ref q_h_steps, .ref q_h_bytes, .ref (K.2.1.1 v_names), .int v_at])), (q_h_steps, .inr (2, [.ref q_h_steps_numbers, .int v_steps_many])), (q_h_bytes, .inr (2, [.ref q_h_bytes_numbers, .int v_bytes_many])), (q_h_steps_numbers, .inl (K.2.2.1, 50, .inl v_steps_numbers)), (q_h_bytes_numbers, .inl (K.2.2.1, 50, .inl v_bytes_numbers))] sz) := (cg_X2_readsLevel l 45).2 K q_h q_h_steps q_h_bytes q_h_steps_numbers q_h_bytes_numbers sz a1 v_names v_at v_steps_many v_bytes_many v_steps_numbers v_bytes_numbers post hw
/-! OvenRings$Reader.reads(LOvenRings$Row;Ljava/lang/String;)Z -/
def wp_X2_reads (n_p1 : Nat) (p2 : Nat) (v_names : Nat) (v_at : Int32) (v_p1_many : Int32) (v_steps_many : Int32) (v_bytes_many : Int32) (v_p1_numbers : Nat → Int32) (v_steps_numbers : Nat → Int32) (v_bytes_numbers : Nat → Int32) (post : Int32 → Nat → Int32 → Int32 → Int32 → (Nat → Int32) → (Nat → Int32) → Prop) : Prop := wp_X3_copyFrom 50 n_p1 v_bytes_many v_p1_many v_bytes_numbers v_p1_numbers (fun v_bytes_many_1 v_bytes_numbers_2 => wp_X2_readsLevel (0 : Int32) (0 : Int32) p2 (0 : Int32) (0 : Int32) v_bytes_many_1 v_steps_numbers v_bytes_numbers_2 (fun r_6 v_at_3 v_steps_many_4 v_steps_numbers_5 => (r_6 = 0 → (post (0 : Int32) p2 v_at_3 v_steps_many_4 v_bytes_many_1 v_steps_numbers_5 v_bytes_numbers_2)) ∧ (¬ r_6 = 0 → ((v_at_3 = v_bytes_many_1 → (post (1 : Int32) p2 v_at_3 v_steps_many_4 v_bytes_many_1 v_steps_numbers_5 v_bytes_numbers_2)) ∧ (¬ v_at_3 = v_bytes_many_1 → (post (0 : Int32) p2 v_at_3 v_steps_many_4 v_bytes_many_1 v_steps_numbers_5 v_bytes_numbers_2))))))
abbrev rm_X2_reads : Room := { frames := 51, cells := 0, slots := 0, locals := 1257 }
abbrev Qc_X2_reads (K : vGl) (q_h q_p1 q_h_steps q_h_bytes q_p1_numbers q_h_steps_numbers q_h_bytes_numbers : Nat) (n_p1 : Nat)  (v_p1_many : Int32) (v_p1_numbers : Nat → Int32) (post : Int32 → Nat → Int32 → Int32 → Int32 → (Nat → Int32) → (Nat → Int32) → Prop) (A : Nat → Prop) : Array Value → State → Outcome → State → Prop := va_Qi (fun (r : Int32) (u : Nat × Int32 × Int32 × Int32 × (Nat → Int32) × (Nat → Int32)) => (r = 0 ∨ r = 1) ∧ post r u.1 u.2.1 u.2.2.1 u.2.2.2.1 u.2.2.2.2.1 u.2.2.2.2.2) (fun u t => vB K A [(q_h, .inr (1, [.ref q_h_steps, .ref q_h_bytes, .ref (K.2.1.1 u.1), .int u.2.1])), (q_p1, .inr (2, [.ref q_p1_numbers, .int v_p1_many])), (q_h_steps, .inr (2, [.ref q_h_steps_numbers, .int u.2.2.1])), (q_h_bytes, .inr (2, [.ref q_h_bytes_numbers, .int u.2.2.2.1])), (q_p1_numbers, .inl (K.2.2.1, n_p1, .inl v_p1_numbers)), (q_h_steps_numbers, .inl (K.2.2.1, 50, .inl u.2.2.2.2.1)), (q_h_bytes_numbers, .inl (K.2.2.1, 50, .inl u.2.2.2.2.2))] t) A
set_option maxHeartbeats 4000000 in
set_option maxRecDepth 100000 in
theorem c_X2_reads (l : Launch) (K : vGl) (q_h q_p1 q_h_steps q_h_bytes q_p1_numbers q_h_steps_numbers q_h_bytes_numbers : Nat) (n_p1 : Nat)  (sz : Nat) (p2 : Nat) (v_names : Nat) (v_at : Int32) (v_p1_many : Int32) (v_steps_many : Int32) (v_bytes_many : Int32) (v_p1_numbers : Nat → Int32) (v_steps_numbers : Nat → Int32) (v_bytes_numbers : Nat → Int32) (post : Int32 → Nat → Int32 → Int32 → Int32 → (Nat → Int32) → (Nat → Int32) → Prop) (hw : wp_X2_reads n_p1 p2 v_names v_at v_p1_many v_steps_many v_bytes_many v_p1_numbers v_steps_numbers v_bytes_numbers post) : Met l yX2_reads (.code yX2_reads cX2_reads 3 (some .boolean) :: vT) rm_X2_reads (va_Pc [.ref q_h, .ref q_p1, .ref (K.2.1.1 p2)] (vPre K [(q_h, .inr (1, [.ref q_h_steps, .ref q_h_bytes, .ref (K.2.1.1 v_names), .int v_at])), (q_p1, .inr (2, [.ref q_p1_numbers, .int v_p1_many])), (q_h_steps, .inr (2, [.ref q_h_steps_numbers, .int v_steps_many])), (q_h_bytes, .inr (2, [.ref q_h_bytes_numbers, .int v_bytes_many])), (q_p1_numbers, .inl (K.2.2.1, n_p1, .inl v_p1_numbers)), (q_h_steps_numbers, .inl (K.2.2.1, 50, .inl v_steps_numbers)), (q_h_bytes_numbers, .inl (K.2.2.1, 50, .inl v_bytes_numbers))] sz)) (Qc_X2_reads K q_h q_p1 q_h_steps q_h_bytes q_p1_numbers q_h_steps_numbers q_h_bytes_numbers n_p1 v_p1_many v_p1_numbers post (va_A [(q_h, .inr (1, [.ref q_h_steps, .ref q_h_bytes, .ref (K.2.1.1 v_names), .int v_at])), (q_p1, .inr (2, [.ref q_p1_numbers, .int v_p1_many])), (q_h_steps, .inr (2, [.ref q_h_steps_numbers, .int v_steps_many])), (q_h_bytes, .inr (2, [.ref q_h_bytes_numbers, .int v_bytes_many])), (q_p1_numbers, .inl (K.2.2.1, n_p1, .inl v_p1_numbers)), (q_h_steps_numbers, .inl (K.2.2.1, 50, .inl v_steps_numbers)), (q_h_bytes_numbers, .inl (K.2.2.1, 50, .inl v_bytes_numbers))] sz)) 0 0 (va_A [(q_h, .inr (1, [.ref q_h_steps, .ref q_h_bytes, .ref (K.2.1.1 v_names), .int v_at])), (q_p1, .inr (2, [.ref q_p1_numbers, .int v_p1_many])), (q_h_steps, .inr (2, [.ref q_h_steps_numbers, .int v_steps_many])), (q_h_bytes, .inr (2, [.ref q_h_bytes_numbers, .int v_bytes_many])), (q_p1_numbers, .inl (K.2.2.1, n_p1, .inl v_p1_numbers)), (q_h_steps_numbers, .inl (K.2.2.1, 50, .inl v_steps_numbers)), (q_h_bytes_numbers, .inl (K.2.2.1, 50, .inl v_bytes_numbers))] sz) := by
  unfold wp_X2_reads at hw
  refine Met.ofW (cc := cX2_reads) (maxL := 3) (ret := (some .boolean)) (by decide) rfl ?_
  intro p e s m args below meth c s₁ B hml hv
  obtain ⟨rfl, hsz, hP, hK, hD0, hG, hR⟩ := hv
  have hx := B.exec
  have hb := B.bytes
  have hr := B.returns
  have hts : ∀ w ∈ vT, w.before _ s = true := fun w h => atoms_spec (ws := .code yX2_reads cX2_reads 3 (some .boolean) :: vT) B.pre w (List.mem_cons_of_mem _ h)
  have hown : s.vm.findClass RX2 = some m.cls := findClass_of_methodNamed B.named
  have hlocks := B.notSynchronized
  subst hsz
  have hD := hD0.self (sz := s.heap.size)
  show W p l e (rm_X2_reads) s m _ below meth c s.heap [] 0 0 _ _
  generalize hAe : va_A [(q_h, .inr (1, [.ref q_h_steps, .ref q_h_bytes, .ref (K.2.1.1 v_names), .int v_at])), (q_p1, .inr (2, [.ref q_p1_numbers, .int v_p1_many])), (q_h_steps, .inr (2, [.ref q_h_steps_numbers, .int v_steps_many])), (q_h_bytes, .inr (2, [.ref q_h_bytes_numbers, .int v_bytes_many])), (q_p1_numbers, .inl (K.2.2.1, n_p1, .inl v_p1_numbers)), (q_h_steps_numbers, .inl (K.2.2.1, 50, .inl v_steps_numbers)), (q_h_bytes_numbers, .inl (K.2.2.1, 50, .inl v_bytes_numbers))] s.heap.size = A at hD hG ⊢
  have hX : vX K A s := ⟨hK, hG, hR, fun q h => by rw [← hAe]; exact Or.inr h⟩
  have hS : va_S A s.heap s.heap [] := va_S.rf
  have F : vFx p s m ([.ref q_h, .ref q_p1, .ref (K.2.1.1 p2)] : List Value).toArray meth c cX2_reads RX2 3 (some .boolean) := ⟨hx, hb, hml, hown, hts, hr, hlocks⟩
  have hl := lv_entry ([.ref q_h, .ref q_p1, .ref (K.2.1.1 p2)]) (n := 3) (Nat.le_of_ble_eq_true rfl)
  rw [lg_entry_eq]
  generalize (lg_sl ([.ref q_h, .ref q_p1, .ref (K.2.1.1 p2)]) ++ List.replicate (3 - (lg_sl ([.ref q_h, .ref q_p1, .ref (K.2.1.1 p2)])).length) Slot.unset).toArray = ls at hl ⊢
  have hl : lv_has ls 3 [(0, .ref q_h), (1, .ref q_p1), (2, .ref (K.2.1.1 p2))] := hl
  obtain ⟨H, hHe⟩ : ∃ H, H = s.heap := ⟨_, rfl⟩
  have hS : va_S A s.heap H [] := by rw [hHe]; exact hS
  have hP : va_P K.1 vwCl [(q_h, .inr (1, [.ref q_h_steps, .ref q_h_bytes, .ref (K.2.1.1 v_names), .int v_at])), (q_p1, .inr (2, [.ref q_p1_numbers, .int v_p1_many])), (q_h_steps, .inr (2, [.ref q_h_steps_numbers, .int v_steps_many])), (q_h_bytes, .inr (2, [.ref q_h_bytes_numbers, .int v_bytes_many])), (q_p1_numbers, .inl (K.2.2.1, n_p1, .inl v_p1_numbers)), (q_h_steps_numbers, .inl (K.2.2.1, 50, .inl v_steps_numbers)), (q_h_bytes_numbers, .inl (K.2.2.1, 50, .inl v_bytes_numbers))] H := by rw [hHe]; exact hP
  refine vWH hHe ?_
  refine lv_aload_n hx hb dX2_reads_0 rfl (lv_at hl 0 rfl) ?_
  refine va_get (D := K.1) (ci := 1) (v := .ref q_h_bytes) (C := RX2) (T := TX2) (N := 4) hx hb hts iwX2 hown hX.1 hP 0 rfl rfl 1 (by decide) (hts _ k_211) (fun _ h9 => h9) rfl dX2_reads_1 ?_
  refine lv_aload_n hx hb dX2_reads_4 rfl (lv_at hl 1 rfl) ?_
  refine vCallv (K := K) (wr := [(q_h, .inr (1, [.ref q_h_steps, .ref q_h_bytes, .ref (K.2.1.1 v_names), .int v_at])), (q_h_steps, .inr (2, [.ref q_h_steps_numbers, .int v_steps_many])), (q_h_steps_numbers, .inl (K.2.2.1, 50, .inl v_steps_numbers))]) (w1 := (fun (u : Int32 × (Nat → Int32)) => [(q_h_bytes, .inr (2, [.ref q_h_bytes_numbers, .int u.1])), (q_p1, .inr (2, [.ref q_p1_numbers, .int v_p1_many])), (q_h_bytes_numbers, .inl (K.2.2.1, 50, .inl u.2)), (q_p1_numbers, .inl (K.2.2.1, n_p1, .inl v_p1_numbers))])) (va_runV (As := [.ref q_p1]) (rest := []) ⟨hx, hb, hml, hown, hts⟩ (c_X3_copyFrom l K q_h_bytes q_p1 q_h_bytes_numbers q_p1_numbers 50 n_p1 H.size v_bytes_many v_p1_many v_bytes_numbers v_p1_numbers _ hw) (cwV 1 hts (vGoodV k_437 k_438 k_439 k_60 k_440) rfl rfl rfl (by decide +kernel) ⟨Nat.le_of_ble_eq_true rfl, Nat.le_of_ble_eq_true rfl⟩) ⟨vPre_blind, va_recv hX.1 hP (ci := 2) (q0 := 3) rfl rfl, fun U hU hW => ⟨rfl, vPre_of hX hP hD hS [3, 1, 6, 4] rfl (by decide) U hU hW⟩⟩ rfl rfl hl.1 rfl (lv_room (Nat.le_of_ble_eq_true rfl)) dX2_reads_5 ⟨Nat.zero_le _, Nat.zero_le _⟩) hX hP hD hS [3, 1, 6, 4] [0, 2, 5] rfl rfl (by decide) (by decide) (fun u H locs hw hP hD hS => ?_)
  obtain ⟨v_bytes_many_1, v_bytes_numbers_2⟩ := u
  have hP : va_P K.1 vwCl [(q_h, .inr (1, [.ref q_h_steps, .ref q_h_bytes, .ref (K.2.1.1 v_names), .int v_at])), (q_p1, .inr (2, [.ref q_p1_numbers, .int v_p1_many])), (q_h_steps, .inr (2, [.ref q_h_steps_numbers, .int v_steps_many])), (q_h_bytes, .inr (2, [.ref q_h_bytes_numbers, .int v_bytes_many_1])), (q_p1_numbers, .inl (K.2.2.1, n_p1, .inl v_p1_numbers)), (q_h_steps_numbers, .inl (K.2.2.1, 50, .inl v_steps_numbers)), (q_h_bytes_numbers, .inl (K.2.2.1, 50, .inl v_bytes_numbers_2))] H := hP.sub [0, 4, 1, 3, 6, 2, 5] rfl
  have hD : va_D A [(q_h, .inr (1, [.ref q_h_steps, .ref q_h_bytes, .ref (K.2.1.1 v_names), .int v_at])), (q_p1, .inr (2, [.ref q_p1_numbers, .int v_p1_many])), (q_h_steps, .inr (2, [.ref q_h_steps_numbers, .int v_steps_many])), (q_h_bytes, .inr (2, [.ref q_h_bytes_numbers, .int v_bytes_many_1])), (q_p1_numbers, .inl (K.2.2.1, n_p1, .inl v_p1_numbers)), (q_h_steps_numbers, .inl (K.2.2.1, 50, .inl v_steps_numbers)), (q_h_bytes_numbers, .inl (K.2.2.1, 50, .inl v_bytes_numbers_2))] := hD.sub [0, 4, 1, 3, 6, 2, 5] (by decide) rfl
  refine lv_aload_n hx hb dX2_reads_8 rfl (lv_at hl 0 rfl) ?_
  refine lv_aload_n hx hb dX2_reads_9 rfl (lv_at hl 2 rfl) ?_
  refine va_put (D := K.1) (ci := 1) (v := .ref (K.2.1.1 p2)) (ty := (.object "java/lang/String")) (C := RX2) (T := TX2) (N := 4) hx hb hts iwX2 tyX2 tyX2_ok nmX2 hown hX.1 hP hD hS 0 rfl rfl 2 (by decide) (hts _ k_212) (fun _ h9 => h9) rfl (by decide +kernel) rfl rfl (Nat.le_of_ble_eq_true rfl) dX2_reads_10 (fun H locs hP hD hS => ?_)
  have hP : va_P K.1 vwCl [(q_h, .inr (1, [.ref q_h_steps, .ref q_h_bytes, .ref (K.2.1.1 p2), .int v_at])), (q_p1, .inr (2, [.ref q_p1_numbers, .int v_p1_many])), (q_h_steps, .inr (2, [.ref q_h_steps_numbers, .int v_steps_many])), (q_h_bytes, .inr (2, [.ref q_h_bytes_numbers, .int v_bytes_many_1])), (q_p1_numbers, .inl (K.2.2.1, n_p1, .inl v_p1_numbers)), (q_h_steps_numbers, .inl (K.2.2.1, 50, .inl v_steps_numbers)), (q_h_bytes_numbers, .inl (K.2.2.1, 50, .inl v_bytes_numbers_2))] H := hP
  have hD : va_D A [(q_h, .inr (1, [.ref q_h_steps, .ref q_h_bytes, .ref (K.2.1.1 p2), .int v_at])), (q_p1, .inr (2, [.ref q_p1_numbers, .int v_p1_many])), (q_h_steps, .inr (2, [.ref q_h_steps_numbers, .int v_steps_many])), (q_h_bytes, .inr (2, [.ref q_h_bytes_numbers, .int v_bytes_many_1])), (q_p1_numbers, .inl (K.2.2.1, n_p1, .inl v_p1_numbers)), (q_h_steps_numbers, .inl (K.2.2.1, 50, .inl v_steps_numbers)), (q_h_bytes_numbers, .inl (K.2.2.1, 50, .inl v_bytes_numbers_2))] := hD
  refine lv_aload_n hx hb dX2_reads_13 rfl (lv_at hl 0 rfl) ?_
  refine va_get (D := K.1) (ci := 1) (v := .ref q_h_steps) (C := RX2) (T := TX2) (N := 4) hx hb hts iwX2 hown hX.1 hP 0 rfl rfl 0 (by decide) (hts _ k_209) (fun _ h9 => h9) rfl dX2_reads_14 ?_
  refine lv_iconst (v := (0 : Int32)) hx hb dX2_reads_17 (by decide) ?_
  refine va_put (D := K.1) (ci := 2) (v := .int (0 : Int32)) (ty := .int) (C := RX3) (T := TX3) (N := 2) hx hb hts iwX3 tyX3 tyX3_ok nmX3 hown hX.1 hP hD hS 2 rfl rfl 1 (by decide) (hts _ k_107) (fun _ h9 => h9) rfl (by decide +kernel) rfl rfl (Nat.le_of_ble_eq_true rfl) dX2_reads_18 (fun H locs hP hD hS => ?_)
  have hP : va_P K.1 vwCl [(q_h, .inr (1, [.ref q_h_steps, .ref q_h_bytes, .ref (K.2.1.1 p2), .int v_at])), (q_p1, .inr (2, [.ref q_p1_numbers, .int v_p1_many])), (q_h_steps, .inr (2, [.ref q_h_steps_numbers, .int (0 : Int32)])), (q_h_bytes, .inr (2, [.ref q_h_bytes_numbers, .int v_bytes_many_1])), (q_p1_numbers, .inl (K.2.2.1, n_p1, .inl v_p1_numbers)), (q_h_steps_numbers, .inl (K.2.2.1, 50, .inl v_steps_numbers)), (q_h_bytes_numbers, .inl (K.2.2.1, 50, .inl v_bytes_numbers_2))] H := hP
  have hD : va_D A [(q_h, .inr (1, [.ref q_h_steps, .ref q_h_bytes, .ref (K.2.1.1 p2), .int v_at])), (q_p1, .inr (2, [.ref q_p1_numbers, .int v_p1_many])), (q_h_steps, .inr (2, [.ref q_h_steps_numbers, .int (0 : Int32)])), (q_h_bytes, .inr (2, [.ref q_h_bytes_numbers, .int v_bytes_many_1])), (q_p1_numbers, .inl (K.2.2.1, n_p1, .inl v_p1_numbers)), (q_h_steps_numbers, .inl (K.2.2.1, 50, .inl v_steps_numbers)), (q_h_bytes_numbers, .inl (K.2.2.1, 50, .inl v_bytes_numbers_2))] := hD
  refine lv_aload_n hx hb dX2_reads_21 rfl (lv_at hl 0 rfl) ?_
  refine lv_iconst (v := (0 : Int32)) hx hb dX2_reads_22 (by decide) ?_
  refine va_put (D := K.1) (ci := 1) (v := .int (0 : Int32)) (ty := .int) (C := RX2) (T := TX2) (N := 4) hx hb hts iwX2 tyX2 tyX2_ok nmX2 hown hX.1 hP hD hS 0 rfl rfl 3 (by decide) (hts _ k_213) (fun _ h9 => h9) rfl (by decide +kernel) rfl rfl (Nat.le_of_ble_eq_true rfl) dX2_reads_23 (fun H locs hP hD hS => ?_)
  have hP : va_P K.1 vwCl [(q_h, .inr (1, [.ref q_h_steps, .ref q_h_bytes, .ref (K.2.1.1 p2), .int (0 : Int32)])), (q_p1, .inr (2, [.ref q_p1_numbers, .int v_p1_many])), (q_h_steps, .inr (2, [.ref q_h_steps_numbers, .int (0 : Int32)])), (q_h_bytes, .inr (2, [.ref q_h_bytes_numbers, .int v_bytes_many_1])), (q_p1_numbers, .inl (K.2.2.1, n_p1, .inl v_p1_numbers)), (q_h_steps_numbers, .inl (K.2.2.1, 50, .inl v_steps_numbers)), (q_h_bytes_numbers, .inl (K.2.2.1, 50, .inl v_bytes_numbers_2))] H := hP
  have hD : va_D A [(q_h, .inr (1, [.ref q_h_steps, .ref q_h_bytes, .ref (K.2.1.1 p2), .int (0 : Int32)])), (q_p1, .inr (2, [.ref q_p1_numbers, .int v_p1_many])), (q_h_steps, .inr (2, [.ref q_h_steps_numbers, .int (0 : Int32)])), (q_h_bytes, .inr (2, [.ref q_h_bytes_numbers, .int v_bytes_many_1])), (q_p1_numbers, .inl (K.2.2.1, n_p1, .inl v_p1_numbers)), (q_h_steps_numbers, .inl (K.2.2.1, 50, .inl v_steps_numbers)), (q_h_bytes_numbers, .inl (K.2.2.1, 50, .inl v_bytes_numbers_2))] := hD
  refine lv_aload_n hx hb dX2_reads_26 rfl (lv_at hl 0 rfl) ?_
  refine lv_iconst (v := (0 : Int32)) hx hb dX2_reads_27 (by decide) ?_
  refine lv_iconst (v := (0 : Int32)) hx hb dX2_reads_28 (by decide) ?_
  refine vCalli (K := K) (wr := [(q_p1, .inr (2, [.ref q_p1_numbers, .int v_p1_many])), (q_p1_numbers, .inl (K.2.2.1, n_p1, .inl v_p1_numbers))]) (w1 := (fun (u : Int32 × Int32 × (Nat → Int32)) => [(q_h, .inr (1, [.ref q_h_steps, .ref q_h_bytes, .ref (K.2.1.1 p2), .int u.1])), (q_h_steps, .inr (2, [.ref q_h_steps_numbers, .int u.2.1])), (q_h_bytes, .inr (2, [.ref q_h_bytes_numbers, .int v_bytes_many_1])), (q_h_steps_numbers, .inl (K.2.2.1, 50, .inl u.2.2)), (q_h_bytes_numbers, .inl (K.2.2.1, 50, .inl v_bytes_numbers_2))])) (va_runV (As := [.int (0 : Int32), .int (0 : Int32)]) (rest := []) ⟨hx, hb, hml, hown, hts⟩ (c_X2_readsLevel l K q_h q_h_steps q_h_bytes q_h_steps_numbers q_h_bytes_numbers H.size (0 : Int32) (0 : Int32) p2 (0 : Int32) (0 : Int32) v_bytes_many_1 v_steps_numbers v_bytes_numbers_2 _ hw) (cwV 2 hts (vGoodV k_445 k_447 k_2 k_62 k_448) rfl rfl rfl (by decide +kernel) ⟨Nat.le_of_ble_eq_true rfl, Nat.le_of_ble_eq_true rfl⟩) ⟨vPre_blind, va_recv hX.1 hP (ci := 1) (q0 := 0) rfl rfl, fun U hU hW => ⟨rfl, vPre_of hX hP hD hS [0, 2, 3, 5, 6] rfl (by decide) U hU hW⟩⟩ rfl rfl hl.1 rfl (lv_room (Nat.le_of_ble_eq_true rfl)) dX2_reads_29 ⟨Nat.zero_le _, Nat.zero_le _⟩) hX hP hD hS [0, 2, 3, 5, 6] [1, 4] rfl rfl (by decide) (by decide) (fun r_6 u H locs hw hP hD hS => ?_)
  obtain ⟨v_at_3, v_steps_many_4, v_steps_numbers_5⟩ := u
  have hP : va_P K.1 vwCl [(q_h, .inr (1, [.ref q_h_steps, .ref q_h_bytes, .ref (K.2.1.1 p2), .int v_at_3])), (q_p1, .inr (2, [.ref q_p1_numbers, .int v_p1_many])), (q_h_steps, .inr (2, [.ref q_h_steps_numbers, .int v_steps_many_4])), (q_h_bytes, .inr (2, [.ref q_h_bytes_numbers, .int v_bytes_many_1])), (q_p1_numbers, .inl (K.2.2.1, n_p1, .inl v_p1_numbers)), (q_h_steps_numbers, .inl (K.2.2.1, 50, .inl v_steps_numbers_5)), (q_h_bytes_numbers, .inl (K.2.2.1, 50, .inl v_bytes_numbers_2))] H := hP.sub [2, 0, 3, 4, 1, 5, 6] rfl
  have hD : va_D A [(q_h, .inr (1, [.ref q_h_steps, .ref q_h_bytes, .ref (K.2.1.1 p2), .int v_at_3])), (q_p1, .inr (2, [.ref q_p1_numbers, .int v_p1_many])), (q_h_steps, .inr (2, [.ref q_h_steps_numbers, .int v_steps_many_4])), (q_h_bytes, .inr (2, [.ref q_h_bytes_numbers, .int v_bytes_many_1])), (q_p1_numbers, .inl (K.2.2.1, n_p1, .inl v_p1_numbers)), (q_h_steps_numbers, .inl (K.2.2.1, 50, .inl v_steps_numbers_5)), (q_h_bytes_numbers, .inl (K.2.2.1, 50, .inl v_bytes_numbers_2))] := hD.sub [2, 0, 3, 4, 1, 5, 6] (by decide) rfl
  have hz_r_6 := hw.1
  have hw := hw.2
  refine lv_if_eq (tgt := 53) hx hb dX2_reads_32 (by decide) (fun c_7 => ?_) (fun c_7 => ?_)
  · have hw := hw.1 c_7
    refine lv_iconst (v := (0 : Int32)) hx hb dX2_reads_53 (by decide) ?_
    exact W.zret (v := (0 : Int32)) hx hb hr vZ0 (fun t ht hW => ⟨⟨(0 : Int32), (p2, v_at_3, v_steps_many_4, v_bytes_many_1, v_steps_numbers_5, v_bytes_numbers_2), rfl, ⟨Or.inl rfl, hw⟩, by rw [ht]; exact hP, va_K.moved hW.alike hX.1, hD⟩, hS.F ht⟩) hS.2.2 dX2_reads_54 hlocks
  · have hw := hw.2 c_7
    refine lv_aload_n hx hb dX2_reads_35 rfl (lv_at hl 0 rfl) ?_
    refine va_get (D := K.1) (ci := 1) (v := .int v_at_3) (C := RX2) (T := TX2) (N := 4) hx hb hts iwX2 hown hX.1 hP 0 rfl rfl 3 (by decide) (hts _ k_213) (fun _ h9 => h9) rfl dX2_reads_36 ?_
    refine lv_aload_n hx hb dX2_reads_39 rfl (lv_at hl 0 rfl) ?_
    refine va_get (D := K.1) (ci := 1) (v := .ref q_h_bytes) (C := RX2) (T := TX2) (N := 4) hx hb hts iwX2 hown hX.1 hP 0 rfl rfl 1 (by decide) (hts _ k_211) (fun _ h9 => h9) rfl dX2_reads_40 ?_
    refine va_get (D := K.1) (ci := 2) (v := .int v_bytes_many_1) (C := RX3) (T := TX3) (N := 2) hx hb hts iwX3 hown hX.1 hP 3 rfl rfl 1 (by decide) (hts _ k_107) (fun _ h9 => h9) rfl dX2_reads_43 ?_
    refine lv_icmp_ne (tgt := 53) hx hb dX2_reads_46 (by decide) (fun c_8 => ?_) (fun c_8 => ?_)
    · have hw := hw.2 c_8
      refine lv_iconst (v := (0 : Int32)) hx hb dX2_reads_53 (by decide) ?_
      exact W.zret (v := (0 : Int32)) hx hb hr vZ0 (fun t ht hW => ⟨⟨(0 : Int32), (p2, v_at_3, v_steps_many_4, v_bytes_many_1, v_steps_numbers_5, v_bytes_numbers_2), rfl, ⟨Or.inl rfl, hw⟩, by rw [ht]; exact hP, va_K.moved hW.alike hX.1, hD⟩, hS.F ht⟩) hS.2.2 dX2_reads_54 hlocks
    · have hw := hw.1 c_8
      refine lv_iconst (v := (1 : Int32)) hx hb dX2_reads_49 (by decide) ?_
      refine lv_goto (tgt := 54) hx hb dX2_reads_50 (by decide) ?_
      exact W.zret (v := (1 : Int32)) hx hb hr vZ1 (fun t ht hW => ⟨⟨(1 : Int32), (p2, v_at_3, v_steps_many_4, v_bytes_many_1, v_steps_numbers_5, v_bytes_numbers_2), rfl, ⟨Or.inr rfl, hw⟩, by rw [ht]; exact hP, va_K.moved hW.alike hX.1, hD⟩, hS.F ht⟩) hS.2.2 dX2_reads_54 hlocks
/-! OvenRings$Row.hasRun(II)Z -/
def wp_X3_hasRun (n_h : Nat) (a1 : Int32) (a2 : Int32) (v_many : Int32) (post : Int32 → Prop) : Prop := (a1 < 0 → (post (0 : Int32))) ∧ (¬ a1 < 0 → ((a2 < 0 → (post (0 : Int32))) ∧ (¬ a2 < 0 → ((v_many < a2 → (post (0 : Int32))) ∧ (¬ v_many < a2 → (((v_many - a2) < a1 → (post (0 : Int32))) ∧ (¬ (v_many - a2) < a1 → (((Int32.ofNat n_h) < v_many → (post (0 : Int32))) ∧ (¬ (Int32.ofNat n_h) < v_many → (post (1 : Int32)))))))))))
abbrev rm_X3_hasRun : Room := { frames := 0, cells := 0, slots := 0, locals := 0 }
abbrev Qc_X3_hasRun (K : vGl) (q_h q_h_numbers : Nat) (n_h : Nat) (ga_h_numbers : Nat → Int32) (v_many : Int32) (post : Int32 → Prop) (A : Nat → Prop) : Array Value → State → Outcome → State → Prop := va_Qi (fun (r : Int32) (u : Unit) => (r = 0 ∨ r = 1) ∧ post r ) (fun u t => vB K A [(q_h, .inr (2, [.ref q_h_numbers, .int v_many])), (q_h_numbers, .inl (K.2.2.1, n_h, .inl ga_h_numbers))] t) A
set_option maxHeartbeats 4000000 in
set_option maxRecDepth 100000 in
theorem c_X3_hasRun (l : Launch) (K : vGl) (q_h q_h_numbers : Nat) (n_h : Nat) (ga_h_numbers : Nat → Int32) (sz : Nat) (a1 : Int32) (a2 : Int32) (v_many : Int32) (post : Int32 → Prop) (hw : wp_X3_hasRun n_h a1 a2 v_many post) : Met l yX3_hasRun (.code yX3_hasRun cX3_hasRun 3 (some .boolean) :: vT) rm_X3_hasRun (va_Pc [.ref q_h, .int a1, .int a2] (vPre K [(q_h, .inr (2, [.ref q_h_numbers, .int v_many])), (q_h_numbers, .inl (K.2.2.1, n_h, .inl ga_h_numbers))] sz)) (Qc_X3_hasRun K q_h q_h_numbers n_h ga_h_numbers v_many post (va_A [(q_h, .inr (2, [.ref q_h_numbers, .int v_many])), (q_h_numbers, .inl (K.2.2.1, n_h, .inl ga_h_numbers))] sz)) 0 0 (va_A [(q_h, .inr (2, [.ref q_h_numbers, .int v_many])), (q_h_numbers, .inl (K.2.2.1, n_h, .inl ga_h_numbers))] sz) := by
  unfold wp_X3_hasRun at hw
  refine Met.ofW (cc := cX3_hasRun) (maxL := 3) (ret := (some .boolean)) (by decide) rfl ?_
  intro p e s m args below meth c s₁ B hml hv
  obtain ⟨rfl, hsz, hP, hK, hD0, hG, hR⟩ := hv
  have hx := B.exec
  have hb := B.bytes
  have hr := B.returns
  have hts : ∀ w ∈ vT, w.before _ s = true := fun w h => atoms_spec (ws := .code yX3_hasRun cX3_hasRun 3 (some .boolean) :: vT) B.pre w (List.mem_cons_of_mem _ h)
  have hown : s.vm.findClass RX3 = some m.cls := findClass_of_methodNamed B.named
  have hlocks := B.notSynchronized
  subst hsz
  have hD := hD0.self (sz := s.heap.size)
  show W p l e (rm_X3_hasRun) s m _ below meth c s.heap [] 0 0 _ _
  generalize hAe : va_A [(q_h, .inr (2, [.ref q_h_numbers, .int v_many])), (q_h_numbers, .inl (K.2.2.1, n_h, .inl ga_h_numbers))] s.heap.size = A at hD hG ⊢
  have hX : vX K A s := ⟨hK, hG, hR, fun q h => by rw [← hAe]; exact Or.inr h⟩
  have hS : va_S A s.heap s.heap [] := va_S.rf
  have F : vFx p s m ([.ref q_h, .int a1, .int a2] : List Value).toArray meth c cX3_hasRun RX3 3 (some .boolean) := ⟨hx, hb, hml, hown, hts, hr, hlocks⟩
  have hl := lv_entry ([.ref q_h, .int a1, .int a2]) (n := 3) (Nat.le_of_ble_eq_true rfl)
  rw [lg_entry_eq]
  generalize (lg_sl ([.ref q_h, .int a1, .int a2]) ++ List.replicate (3 - (lg_sl ([.ref q_h, .int a1, .int a2])).length) Slot.unset).toArray = ls at hl ⊢
  have hl : lv_has ls 3 [(0, .ref q_h), (1, .int a1), (2, .int a2)] := hl
  obtain ⟨H, hHe⟩ : ∃ H, H = s.heap := ⟨_, rfl⟩
  have hS : va_S A s.heap H [] := by rw [hHe]; exact hS
  have hP : va_P K.1 vwCl [(q_h, .inr (2, [.ref q_h_numbers, .int v_many])), (q_h_numbers, .inl (K.2.2.1, n_h, .inl ga_h_numbers))] H := by rw [hHe]; exact hP
  refine vWH hHe ?_
  refine lv_iload_n hx hb dX3_hasRun_0 rfl (lv_at hl 1 rfl) ?_
  refine lv_if_lt (tgt := 42) hx hb dX3_hasRun_1 (by decide) (fun c_1 => ?_) (fun c_1 => ?_)
  · have hw := hw.1 c_1
    refine lv_iconst (v := (0 : Int32)) hx hb dX3_hasRun_42 (by decide) ?_
    exact W.zret (v := (0 : Int32)) hx hb hr vZ0 (fun t ht hW => ⟨⟨(0 : Int32), (), rfl, ⟨Or.inl rfl, hw⟩, by rw [ht]; exact hP, va_K.moved hW.alike hX.1, hD⟩, hS.F ht⟩) hS.2.2 dX3_hasRun_43 hlocks
  · have hw := hw.2 c_1
    refine lv_iload_n hx hb dX3_hasRun_4 rfl (lv_at hl 2 rfl) ?_
    refine lv_if_lt (tgt := 42) hx hb dX3_hasRun_5 (by decide) (fun c_2 => ?_) (fun c_2 => ?_)
    · have hw := hw.1 c_2
      refine lv_iconst (v := (0 : Int32)) hx hb dX3_hasRun_42 (by decide) ?_
      exact W.zret (v := (0 : Int32)) hx hb hr vZ0 (fun t ht hW => ⟨⟨(0 : Int32), (), rfl, ⟨Or.inl rfl, hw⟩, by rw [ht]; exact hP, va_K.moved hW.alike hX.1, hD⟩, hS.F ht⟩) hS.2.2 dX3_hasRun_43 hlocks
    · have hw := hw.2 c_2
      refine lv_iload_n hx hb dX3_hasRun_8 rfl (lv_at hl 2 rfl) ?_
      refine lv_aload_n hx hb dX3_hasRun_9 rfl (lv_at hl 0 rfl) ?_
      refine va_get (D := K.1) (ci := 2) (v := .int v_many) (C := RX3) (T := TX3) (N := 2) hx hb hts iwX3 hown hX.1 hP 0 rfl rfl 1 (by decide) (hts _ k_106) (fun _ h9 => h9) rfl dX3_hasRun_10 ?_
      refine lv_icmp_gt (tgt := 42) hx hb dX3_hasRun_13 (by decide) (fun c_3 => ?_) (fun c_3 => ?_)
      · have hw := hw.1 c_3
        refine lv_iconst (v := (0 : Int32)) hx hb dX3_hasRun_42 (by decide) ?_
        exact W.zret (v := (0 : Int32)) hx hb hr vZ0 (fun t ht hW => ⟨⟨(0 : Int32), (), rfl, ⟨Or.inl rfl, hw⟩, by rw [ht]; exact hP, va_K.moved hW.alike hX.1, hD⟩, hS.F ht⟩) hS.2.2 dX3_hasRun_43 hlocks
      · have hw := hw.2 c_3
        refine lv_iload_n hx hb dX3_hasRun_16 rfl (lv_at hl 1 rfl) ?_
        refine lv_aload_n hx hb dX3_hasRun_17 rfl (lv_at hl 0 rfl) ?_
        refine va_get (D := K.1) (ci := 2) (v := .int v_many) (C := RX3) (T := TX3) (N := 2) hx hb hts iwX3 hown hX.1 hP 0 rfl rfl 1 (by decide) (hts _ k_106) (fun _ h9 => h9) rfl dX3_hasRun_18 ?_
        refine lv_iload_n hx hb dX3_hasRun_21 rfl (lv_at hl 2 rfl) ?_
        refine lv_isub hx hb dX3_hasRun_22 ?_
        refine lv_icmp_gt (tgt := 42) hx hb dX3_hasRun_23 (by decide) (fun c_4 => ?_) (fun c_4 => ?_)
        · have hw := hw.1 c_4
          refine lv_iconst (v := (0 : Int32)) hx hb dX3_hasRun_42 (by decide) ?_
          exact W.zret (v := (0 : Int32)) hx hb hr vZ0 (fun t ht hW => ⟨⟨(0 : Int32), (), rfl, ⟨Or.inl rfl, hw⟩, by rw [ht]; exact hP, va_K.moved hW.alike hX.1, hD⟩, hS.F ht⟩) hS.2.2 dX3_hasRun_43 hlocks
        · have hw := hw.2 c_4
          refine lv_aload_n hx hb dX3_hasRun_26 rfl (lv_at hl 0 rfl) ?_
          refine va_get (D := K.1) (ci := 2) (v := .int v_many) (C := RX3) (T := TX3) (N := 2) hx hb hts iwX3 hown hX.1 hP 0 rfl rfl 1 (by decide) (hts _ k_106) (fun _ h9 => h9) rfl dX3_hasRun_27 ?_
          refine lv_aload_n hx hb dX3_hasRun_30 rfl (lv_at hl 0 rfl) ?_
          refine va_get (D := K.1) (ci := 2) (v := .ref q_h_numbers) (C := RX3) (T := TX3) (N := 2) hx hb hts iwX3 hown hX.1 hP 0 rfl rfl 0 (by decide) (hts _ k_102) (fun _ h9 => h9) rfl dX3_hasRun_31 ?_
          refine va_alen (v := (Int32.ofNat n_h)) hx hb hX.1 hP 1 0 rfl rfl rfl dX3_hasRun_34 ?_
          refine lv_icmp_gt (tgt := 42) hx hb dX3_hasRun_35 (by decide) (fun c_5 => ?_) (fun c_5 => ?_)
          · have hw := hw.1 c_5
            refine lv_iconst (v := (0 : Int32)) hx hb dX3_hasRun_42 (by decide) ?_
            exact W.zret (v := (0 : Int32)) hx hb hr vZ0 (fun t ht hW => ⟨⟨(0 : Int32), (), rfl, ⟨Or.inl rfl, hw⟩, by rw [ht]; exact hP, va_K.moved hW.alike hX.1, hD⟩, hS.F ht⟩) hS.2.2 dX3_hasRun_43 hlocks
          · have hw := hw.2 c_5
            refine lv_iconst (v := (1 : Int32)) hx hb dX3_hasRun_38 (by decide) ?_
            refine lv_goto (tgt := 43) hx hb dX3_hasRun_39 (by decide) ?_
            exact W.zret (v := (1 : Int32)) hx hb hr vZ1 (fun t ht hW => ⟨⟨(1 : Int32), (), rfl, ⟨Or.inr rfl, hw⟩, by rw [ht]; exact hP, va_K.moved hW.alike hX.1, hD⟩, hS.F ht⟩) hS.2.2 dX3_hasRun_43 hlocks
/-! OvenRings$Row.room()I -/
def wp_X3_room (n_h : Nat) (v_many : Int32) (post : Int32 → Prop) : Prop := post ((Int32.ofNat n_h) - v_many)
abbrev rm_X3_room : Room := { frames := 0, cells := 0, slots := 0, locals := 0 }
abbrev Qc_X3_room (K : vGl) (q_h q_h_numbers : Nat) (n_h : Nat) (ga_h_numbers : Nat → Int32) (v_many : Int32) (post : Int32 → Prop) (A : Nat → Prop) : Array Value → State → Outcome → State → Prop := va_Qi (fun (r : Int32) (u : Unit) => post r ) (fun u t => vB K A [(q_h, .inr (2, [.ref q_h_numbers, .int v_many])), (q_h_numbers, .inl (K.2.2.1, n_h, .inl ga_h_numbers))] t) A
set_option maxHeartbeats 4000000 in
set_option maxRecDepth 100000 in
theorem c_X3_room (l : Launch) (K : vGl) (q_h q_h_numbers : Nat) (n_h : Nat) (ga_h_numbers : Nat → Int32) (sz : Nat) (v_many : Int32) (post : Int32 → Prop) (hw : wp_X3_room n_h v_many post) : Met l yX3_room (.code yX3_room cX3_room 1 (some .int) :: vT) rm_X3_room (va_Pc [.ref q_h] (vPre K [(q_h, .inr (2, [.ref q_h_numbers, .int v_many])), (q_h_numbers, .inl (K.2.2.1, n_h, .inl ga_h_numbers))] sz)) (Qc_X3_room K q_h q_h_numbers n_h ga_h_numbers v_many post (va_A [(q_h, .inr (2, [.ref q_h_numbers, .int v_many])), (q_h_numbers, .inl (K.2.2.1, n_h, .inl ga_h_numbers))] sz)) 0 0 (va_A [(q_h, .inr (2, [.ref q_h_numbers, .int v_many])), (q_h_numbers, .inl (K.2.2.1, n_h, .inl ga_h_numbers))] sz) := by
  unfold wp_X3_room at hw
  refine Met.ofW (cc := cX3_room) (maxL := 1) (ret := (some .int)) (by decide) rfl ?_
  intro p e s m args below meth c s₁ B hml hv
  obtain ⟨rfl, hsz, hP, hK, hD0, hG, hR⟩ := hv
  have hx := B.exec
  have hb := B.bytes
  have hr := B.returns
  have hts : ∀ w ∈ vT, w.before _ s = true := fun w h => atoms_spec (ws := .code yX3_room cX3_room 1 (some .int) :: vT) B.pre w (List.mem_cons_of_mem _ h)
  have hown : s.vm.findClass RX3 = some m.cls := findClass_of_methodNamed B.named
  have hlocks := B.notSynchronized
  subst hsz
  have hD := hD0.self (sz := s.heap.size)
  show W p l e (rm_X3_room) s m _ below meth c s.heap [] 0 0 _ _
  generalize hAe : va_A [(q_h, .inr (2, [.ref q_h_numbers, .int v_many])), (q_h_numbers, .inl (K.2.2.1, n_h, .inl ga_h_numbers))] s.heap.size = A at hD hG ⊢
  have hX : vX K A s := ⟨hK, hG, hR, fun q h => by rw [← hAe]; exact Or.inr h⟩
  have hS : va_S A s.heap s.heap [] := va_S.rf
  have F : vFx p s m ([.ref q_h] : List Value).toArray meth c cX3_room RX3 1 (some .int) := ⟨hx, hb, hml, hown, hts, hr, hlocks⟩
  have hl := lv_entry ([.ref q_h]) (n := 1) (Nat.le_of_ble_eq_true rfl)
  rw [lg_entry_eq]
  generalize (lg_sl ([.ref q_h]) ++ List.replicate (1 - (lg_sl ([.ref q_h])).length) Slot.unset).toArray = ls at hl ⊢
  have hl : lv_has ls 1 [(0, .ref q_h)] := hl
  obtain ⟨H, hHe⟩ : ∃ H, H = s.heap := ⟨_, rfl⟩
  have hS : va_S A s.heap H [] := by rw [hHe]; exact hS
  have hP : va_P K.1 vwCl [(q_h, .inr (2, [.ref q_h_numbers, .int v_many])), (q_h_numbers, .inl (K.2.2.1, n_h, .inl ga_h_numbers))] H := by rw [hHe]; exact hP
  refine vWH hHe ?_
  refine lv_aload_n hx hb dX3_room_0 rfl (lv_at hl 0 rfl) ?_
  refine va_get (D := K.1) (ci := 2) (v := .ref q_h_numbers) (C := RX3) (T := TX3) (N := 2) hx hb hts iwX3 hown hX.1 hP 0 rfl rfl 0 (by decide) (hts _ k_102) (fun _ h9 => h9) rfl dX3_room_1 ?_
  refine va_alen (v := (Int32.ofNat n_h)) hx hb hX.1 hP 1 0 rfl rfl rfl dX3_room_4 ?_
  refine lv_aload_n hx hb dX3_room_5 rfl (lv_at hl 0 rfl) ?_
  refine va_get (D := K.1) (ci := 2) (v := .int v_many) (C := RX3) (T := TX3) (N := 2) hx hb hts iwX3 hown hX.1 hP 0 rfl rfl 1 (by decide) (hts _ k_106) (fun _ h9 => h9) rfl dX3_room_6 ?_
  refine lv_isub hx hb dX3_room_9 ?_
  exact W.iret (v := ((Int32.ofNat n_h) - v_many)) hx hb hr (fun t ht hW => ⟨⟨((Int32.ofNat n_h) - v_many), (), rfl, hw, by rw [ht]; exact hP, va_K.moved hW.alike hX.1, hD⟩, hS.F ht⟩) hS.2.2 dX3_room_10 hlocks
/-! OvenRings$Row.at(I)I -/
def wp_X3_at (n_h : Nat) (a1 : Int32) (v_many : Int32) (v_numbers : Nat → Int32) (post : Int32 → Prop) : Prop := wp_X3_has n_h a1 v_many (fun r_1 => (r_1 = 0 → (post (0 : Int32))) ∧ (¬ r_1 = 0 → (vp_in a1 n_h ∧ (post (v_numbers a1.toNatClampNeg)))))
abbrev rm_X3_at : Room := { frames := 1, cells := 0, slots := 0, locals := 21 }
abbrev Qc_X3_at (K : vGl) (q_h q_h_numbers : Nat) (n_h : Nat)  (v_many : Int32) (v_numbers : Nat → Int32) (post : Int32 → Prop) (A : Nat → Prop) : Array Value → State → Outcome → State → Prop := va_Qi (fun (r : Int32) (u : Unit) => post r ) (fun u t => vB K A [(q_h, .inr (2, [.ref q_h_numbers, .int v_many])), (q_h_numbers, .inl (K.2.2.1, n_h, .inl v_numbers))] t) A
set_option maxHeartbeats 4000000 in
set_option maxRecDepth 100000 in
theorem c_X3_at (l : Launch) (K : vGl) (q_h q_h_numbers : Nat) (n_h : Nat)  (sz : Nat) (a1 : Int32) (v_many : Int32) (v_numbers : Nat → Int32) (post : Int32 → Prop) (hw : wp_X3_at n_h a1 v_many v_numbers post) : Met l yX3_at (.code yX3_at cX3_at 2 (some .int) :: vT) rm_X3_at (va_Pc [.ref q_h, .int a1] (vPre K [(q_h, .inr (2, [.ref q_h_numbers, .int v_many])), (q_h_numbers, .inl (K.2.2.1, n_h, .inl v_numbers))] sz)) (Qc_X3_at K q_h q_h_numbers n_h v_many v_numbers post (va_A [(q_h, .inr (2, [.ref q_h_numbers, .int v_many])), (q_h_numbers, .inl (K.2.2.1, n_h, .inl v_numbers))] sz)) 0 0 (va_A [(q_h, .inr (2, [.ref q_h_numbers, .int v_many])), (q_h_numbers, .inl (K.2.2.1, n_h, .inl v_numbers))] sz) := by
  unfold wp_X3_at at hw
  refine Met.ofW (cc := cX3_at) (maxL := 2) (ret := (some .int)) (by decide) rfl ?_
  intro p e s m args below meth c s₁ B hml hv
  obtain ⟨rfl, hsz, hP, hK, hD0, hG, hR⟩ := hv
  have hx := B.exec
  have hb := B.bytes
  have hr := B.returns
  have hts : ∀ w ∈ vT, w.before _ s = true := fun w h => atoms_spec (ws := .code yX3_at cX3_at 2 (some .int) :: vT) B.pre w (List.mem_cons_of_mem _ h)
  have hown : s.vm.findClass RX3 = some m.cls := findClass_of_methodNamed B.named
  have hlocks := B.notSynchronized
  subst hsz
  have hD := hD0.self (sz := s.heap.size)
  show W p l e (rm_X3_at) s m _ below meth c s.heap [] 0 0 _ _
  generalize hAe : va_A [(q_h, .inr (2, [.ref q_h_numbers, .int v_many])), (q_h_numbers, .inl (K.2.2.1, n_h, .inl v_numbers))] s.heap.size = A at hD hG ⊢
  have hX : vX K A s := ⟨hK, hG, hR, fun q h => by rw [← hAe]; exact Or.inr h⟩
  have hS : va_S A s.heap s.heap [] := va_S.rf
  have F : vFx p s m ([.ref q_h, .int a1] : List Value).toArray meth c cX3_at RX3 2 (some .int) := ⟨hx, hb, hml, hown, hts, hr, hlocks⟩
  have hl := lv_entry ([.ref q_h, .int a1]) (n := 2) (Nat.le_of_ble_eq_true rfl)
  rw [lg_entry_eq]
  generalize (lg_sl ([.ref q_h, .int a1]) ++ List.replicate (2 - (lg_sl ([.ref q_h, .int a1])).length) Slot.unset).toArray = ls at hl ⊢
  have hl : lv_has ls 2 [(0, .ref q_h), (1, .int a1)] := hl
  obtain ⟨H, hHe⟩ : ∃ H, H = s.heap := ⟨_, rfl⟩
  have hS : va_S A s.heap H [] := by rw [hHe]; exact hS
  have hP : va_P K.1 vwCl [(q_h, .inr (2, [.ref q_h_numbers, .int v_many])), (q_h_numbers, .inl (K.2.2.1, n_h, .inl v_numbers))] H := by rw [hHe]; exact hP
  refine vWH hHe ?_
  refine lv_aload_n hx hb dX3_at_0 rfl (lv_at hl 0 rfl) ?_
  refine lv_iload_n hx hb dX3_at_1 rfl (lv_at hl 1 rfl) ?_
  refine vCalli (K := K) (wr := []) (w1 := (fun _ => [(q_h, .inr (2, [.ref q_h_numbers, .int v_many])), (q_h_numbers, .inl (K.2.2.1, n_h, .inl v_numbers))])) (va_runV (As := [.int a1]) (rest := []) ⟨hx, hb, hml, hown, hts⟩ (c_X3_has l K q_h q_h_numbers n_h v_numbers H.size a1 v_many _ hw) (cwV 1 hts (vGoodV k_643 k_458 k_459 k_60 k_460) rfl rfl rfl (by decide +kernel) ⟨Nat.le_of_ble_eq_true rfl, Nat.le_of_ble_eq_true rfl⟩) ⟨vPre_blind, va_recv hX.1 hP (ci := 2) (q0 := 0) rfl rfl, fun U hU hW => ⟨rfl, vPre_of hX hP hD hS [0, 1] rfl (by decide) U hU hW⟩⟩ rfl rfl hl.1 rfl (lv_room (Nat.le_of_ble_eq_true rfl)) dX3_at_2 ⟨Nat.zero_le _, Nat.zero_le _⟩) hX hP hD hS [0, 1] [] rfl rfl (by decide) (by decide) (fun r_1 u H locs hw hP hD hS => ?_)
  have hP : va_P K.1 vwCl [(q_h, .inr (2, [.ref q_h_numbers, .int v_many])), (q_h_numbers, .inl (K.2.2.1, n_h, .inl v_numbers))] H := hP.sub [0, 1] rfl
  have hD : va_D A [(q_h, .inr (2, [.ref q_h_numbers, .int v_many])), (q_h_numbers, .inl (K.2.2.1, n_h, .inl v_numbers))] := hD.sub [0, 1] (by decide) rfl
  have hz_r_1 := hw.1
  have hw := hw.2
  refine lv_if_eq (tgt := 17) hx hb dX3_at_5 (by decide) (fun c_2 => ?_) (fun c_2 => ?_)
  · have hw := hw.1 c_2
    refine lv_iconst (v := (0 : Int32)) hx hb dX3_at_17 (by decide) ?_
    exact W.iret (v := (0 : Int32)) hx hb hr (fun t ht hW => ⟨⟨(0 : Int32), (), rfl, hw, by rw [ht]; exact hP, va_K.moved hW.alike hX.1, hD⟩, hS.F ht⟩) hS.2.2 dX3_at_18 hlocks
  · have hw := hw.2 c_2
    refine lv_aload_n hx hb dX3_at_8 rfl (lv_at hl 0 rfl) ?_
    refine va_get (D := K.1) (ci := 2) (v := .ref q_h_numbers) (C := RX3) (T := TX3) (N := 2) hx hb hts iwX3 hown hX.1 hP 0 rfl rfl 0 (by decide) (hts _ k_102) (fun _ h9 => h9) rfl dX3_at_9 ?_
    refine lv_iload_n hx hb dX3_at_12 rfl (lv_at hl 1 rfl) ?_
    refine va_iald hx hb hX.1 hP 1 0 rfl rfl hw.1 dX3_at_13 ?_
    have hw := hw.2
    refine lv_goto (tgt := 18) hx hb dX3_at_14 (by decide) ?_
    exact W.iret (v := (v_numbers a1.toNatClampNeg)) hx hb hr (fun t ht hW => ⟨⟨(v_numbers a1.toNatClampNeg), (), rfl, hw, by rw [ht]; exact hP, va_K.moved hW.alike hX.1, hD⟩, hS.F ht⟩) hS.2.2 dX3_at_18 hlocks
/-! OvenRings$Sheet.isMissing()Z -/
def wp_X4_isMissing (v_bits : Int32) (post : Int32 → Prop) : Prop := (v_bits = 0 → (post (1 : Int32))) ∧ (¬ v_bits = 0 → (post (0 : Int32)))
abbrev rm_X4_isMissing : Room := { frames := 0, cells := 0, slots := 0, locals := 0 }
abbrev Qc_X4_isMissing (K : vGl) (q_h : Nat)  (g_h_row : Value) (v_bits : Int32) (post : Int32 → Prop) (A : Nat → Prop) : Array Value → State → Outcome → State → Prop := va_Qi (fun (r : Int32) (u : Unit) => (r = 0 ∨ r = 1) ∧ post r ) (fun u t => vB K A [(q_h, .inr (3, [g_h_row, .int v_bits]))] t) A
set_option maxHeartbeats 4000000 in
set_option maxRecDepth 100000 in
theorem c_X4_isMissing (l : Launch) (K : vGl) (q_h : Nat)  (g_h_row : Value) (sz : Nat) (v_bits : Int32) (post : Int32 → Prop) (hw : wp_X4_isMissing v_bits post) : Met l yX4_isMissing (.code yX4_isMissing cX4_isMissing 1 (some .boolean) :: vT) rm_X4_isMissing (va_Pc [.ref q_h] (vPre K [(q_h, .inr (3, [g_h_row, .int v_bits]))] sz)) (Qc_X4_isMissing K q_h g_h_row v_bits post (va_A [(q_h, .inr (3, [g_h_row, .int v_bits]))] sz)) 0 0 (va_A [(q_h, .inr (3, [g_h_row, .int v_bits]))] sz) := by
  unfold wp_X4_isMissing at hw
  refine Met.ofW (cc := cX4_isMissing) (maxL := 1) (ret := (some .boolean)) (by decide) rfl ?_
  intro p e s m args below meth c s₁ B hml hv
  obtain ⟨rfl, hsz, hP, hK, hD0, hG, hR⟩ := hv
  have hx := B.exec
  have hb := B.bytes
  have hr := B.returns
  have hts : ∀ w ∈ vT, w.before _ s = true := fun w h => atoms_spec (ws := .code yX4_isMissing cX4_isMissing 1 (some .boolean) :: vT) B.pre w (List.mem_cons_of_mem _ h)
  have hown : s.vm.findClass RX4 = some m.cls := findClass_of_methodNamed B.named
  have hlocks := B.notSynchronized
  subst hsz
  have hD := hD0.self (sz := s.heap.size)
  show W p l e (rm_X4_isMissing) s m _ below meth c s.heap [] 0 0 _ _
  generalize hAe : va_A [(q_h, .inr (3, [g_h_row, .int v_bits]))] s.heap.size = A at hD hG ⊢
  have hX : vX K A s := ⟨hK, hG, hR, fun q h => by rw [← hAe]; exact Or.inr h⟩
  have hS : va_S A s.heap s.heap [] := va_S.rf
  have F : vFx p s m ([.ref q_h] : List Value).toArray meth c cX4_isMissing RX4 1 (some .boolean) := ⟨hx, hb, hml, hown, hts, hr, hlocks⟩
  have hl := lv_entry ([.ref q_h]) (n := 1) (Nat.le_of_ble_eq_true rfl)
  rw [lg_entry_eq]
  generalize (lg_sl ([.ref q_h]) ++ List.replicate (1 - (lg_sl ([.ref q_h])).length) Slot.unset).toArray = ls at hl ⊢
  have hl : lv_has ls 1 [(0, .ref q_h)] := hl
  obtain ⟨H, hHe⟩ : ∃ H, H = s.heap := ⟨_, rfl⟩
  have hS : va_S A s.heap H [] := by rw [hHe]; exact hS
  have hP : va_P K.1 vwCl [(q_h, .inr (3, [g_h_row, .int v_bits]))] H := by rw [hHe]; exact hP
  refine vWH hHe ?_
  refine lv_aload_n hx hb dX4_isMissing_0 rfl (lv_at hl 0 rfl) ?_
  refine va_get (D := K.1) (ci := 3) (v := .int v_bits) (C := RX4) (T := TX4) (N := 2) hx hb hts iwX4 hown hX.1 hP 0 rfl rfl 1 (by decide) (hts _ k_258) (fun _ h9 => h9) rfl dX4_isMissing_1 ?_
  refine lv_if_ne (tgt := 11) hx hb dX4_isMissing_4 (by decide) (fun c_1 => ?_) (fun c_1 => ?_)
  · have hw := hw.2 c_1
    refine lv_iconst (v := (0 : Int32)) hx hb dX4_isMissing_11 (by decide) ?_
    exact W.zret (v := (0 : Int32)) hx hb hr vZ0 (fun t ht hW => ⟨⟨(0 : Int32), (), rfl, ⟨Or.inl rfl, hw⟩, by rw [ht]; exact hP, va_K.moved hW.alike hX.1, hD⟩, hS.F ht⟩) hS.2.2 dX4_isMissing_12 hlocks
  · have hw := hw.1 c_1
    refine lv_iconst (v := (1 : Int32)) hx hb dX4_isMissing_7 (by decide) ?_
    refine lv_goto (tgt := 12) hx hb dX4_isMissing_8 (by decide) ?_
    exact W.zret (v := (1 : Int32)) hx hb hr vZ1 (fun t ht hW => ⟨⟨(1 : Int32), (), rfl, ⟨Or.inr rfl, hw⟩, by rw [ht]; exact hP, va_K.moved hW.alike hX.1, hD⟩, hS.F ht⟩) hS.2.2 dX4_isMissing_12 hlocks
/-! OvenRings$Sheet.becomes(II)V -/
def wp_X4_becomes_b15 (a2 : Int32)  (post : Int32 → Int32 → (Nat → Int32) → Prop) : Nat → Int32 → Int32 → Int32 → (Nat → Int32) → Prop
  | 0, _, _, _, _ => False
  | n + 1, x3, v_bits, v_row_many, v_row_numbers => (a2 ≤ x3 → (post v_bits v_row_many v_row_numbers)) ∧ (¬ a2 ≤ x3 → (wp_X3_add 40 (0 : Int32) v_row_many v_row_numbers (fun r_4 v_row_many_2 v_row_numbers_3 => wp_X4_becomes_b15 a2 post n (x3 + (1 : Int32)) v_bits v_row_many_2 v_row_numbers_3)))
theorem u_X4_becomes_b15 {a2 : Int32}  {post : Int32 → Int32 → (Nat → Int32) → Prop} {n : Nat} {x3 : Int32} {v_bits : Int32} {v_row_many : Int32} {v_row_numbers : Nat → Int32} (h : wp_X4_becomes_b15 a2 post (n + 1) x3 v_bits v_row_many v_row_numbers) : (a2 ≤ x3 → (post v_bits v_row_many v_row_numbers)) ∧ (¬ a2 ≤ x3 → (wp_X3_add 40 (0 : Int32) v_row_many v_row_numbers (fun r_4 v_row_many_2 v_row_numbers_3 => wp_X4_becomes_b15 a2 post n (x3 + (1 : Int32)) v_bits v_row_many_2 v_row_numbers_3))) := h
def wp_X4_becomes (a1 : Int32) (a2 : Int32) (v_bits : Int32) (v_row_many : Int32) (v_row_numbers : Nat → Int32) (post : Int32 → Int32 → (Nat → Int32) → Prop) : Prop := ∃ k, wp_X4_becomes_b15 a2 post k (0 : Int32) a1 (0 : Int32) v_row_numbers
abbrev rm_X4_becomes : Room := { frames := 1, cells := 0, slots := 0, locals := 21 }
abbrev Qc_X4_becomes (K : vGl) (q_h q_h_row q_h_row_numbers : Nat)    (post : Int32 → Int32 → (Nat → Int32) → Prop) (A : Nat → Prop) : Array Value → State → Outcome → State → Prop := va_Qv (fun (u : Int32 × Int32 × (Nat → Int32)) => post u.1 u.2.1 u.2.2) (fun u t => vB K A [(q_h, .inr (3, [.ref q_h_row, .int u.1])), (q_h_row, .inr (2, [.ref q_h_row_numbers, .int u.2.1])), (q_h_row_numbers, .inl (K.2.2.1, 40, .inl u.2.2))] t) A
set_option maxHeartbeats 4000000 in
set_option maxRecDepth 100000 in
theorem t_X4_becomes_b15 {p : Program} {l : Launch} {e : Env} {s : State} {m : MethodId} {args : Array Value} {below : List Frame} {meth : Method} {c : Code} {A : Nat → Prop} {K : vGl} {q_h q_h_row q_h_row_numbers : Nat} {a2 : Int32} {post : Int32 → Int32 → (Nat → Int32) → Prop} (F : vFx p s m args meth c cX4_becomes RX4 4 (none : Option Jvm.ClassFile.FieldType)) (hX : vX K A s) : ∀ (n : Nat) (x3 : Int32) (v_bits : Int32) (v_row_many : Int32) (v_row_numbers : Nat → Int32) (H : Heap) (locs : List Loc) (ls : Array Slot), wp_X4_becomes_b15 a2 post n x3 v_bits v_row_many v_row_numbers → va_P K.1 vwCl [(q_h, .inr (3, [.ref q_h_row, .int v_bits])), (q_h_row, .inr (2, [.ref q_h_row_numbers, .int v_row_many])), (q_h_row_numbers, .inl (K.2.2.1, 40, .inl v_row_numbers))] H → va_D A [(q_h, .inr (3, [.ref q_h_row, .int v_bits])), (q_h_row, .inr (2, [.ref q_h_row_numbers, .int v_row_many])), (q_h_row_numbers, .inl (K.2.2.1, 40, .inl v_row_numbers))] → va_S A s.heap H locs → lv_has ls 4 [(0, .ref q_h), (2, .int a2), (3, .int x3)] → W p l e rm_X4_becomes s m args below meth c H locs 0 0 (MQ below (Qc_X4_becomes K q_h q_h_row q_h_row_numbers post A) args s 0 0 A) (F0 m 15 ls []) := by
  obtain ⟨hx, hb, hml, hown, hts, hr, hlocks⟩ := id F
  intro n
  induction n with
  | zero =>
    intro x3 v_bits v_row_many v_row_numbers H locs ls hw
    exact hw.elim
  | succ n ih =>
    intro x3 v_bits v_row_many v_row_numbers H locs ls hw hP hD hS hl
    have hw := u_X4_becomes_b15 hw
    refine lv_iload_n hx hb dX4_becomes_15 rfl (lv_at hl 2 rfl) ?_
    refine lv_iload_n hx hb dX4_becomes_16 rfl (lv_at hl 1 rfl) ?_
    refine lv_icmp_ge (tgt := 35) hx hb dX4_becomes_17 (by decide) (fun c_1 => ?_) (fun c_1 => ?_)
    · have hw := hw.1 c_1
      exact W.vret hx hb hr (fun t ht hW => ⟨⟨(v_bits, v_row_many, v_row_numbers), rfl, hw, by rw [ht]; exact hP, va_K.moved hW.alike hX.1, hD⟩, hS.F ht⟩) hS.2.2 dX4_becomes_35 hlocks
    · have hw := hw.2 c_1
      refine lv_aload_n hx hb dX4_becomes_20 rfl (lv_at hl 0 rfl) ?_
      refine va_get (D := K.1) (ci := 3) (v := .ref q_h_row) (C := RX4) (T := TX4) (N := 2) hx hb hts iwX4 hown hX.1 hP 0 rfl rfl 0 (by decide) (hts _ k_256) (fun _ h9 => h9) rfl dX4_becomes_21 ?_
      refine lv_iconst (v := (0 : Int32)) hx hb dX4_becomes_24 (by decide) ?_
      refine vCalli (K := K) (wr := [(q_h, .inr (3, [.ref q_h_row, .int v_bits]))]) (w1 := (fun (u : Int32 × (Nat → Int32)) => [(q_h_row, .inr (2, [.ref q_h_row_numbers, .int u.1])), (q_h_row_numbers, .inl (K.2.2.1, 40, .inl u.2))])) (va_runV (As := [.int (0 : Int32)]) (rest := []) ⟨hx, hb, hml, hown, hts⟩ (c_X3_add l K q_h_row q_h_row_numbers 40 H.size (0 : Int32) v_row_many v_row_numbers _ hw) (cwV 1 hts (vGoodV k_729 k_421 k_422 k_60 k_423) rfl rfl rfl (by decide +kernel) ⟨Nat.le_of_ble_eq_true rfl, Nat.le_of_ble_eq_true rfl⟩) ⟨vPre_blind, va_recv hX.1 hP (ci := 2) (q0 := 1) rfl rfl, fun U hU hW => ⟨rfl, vPre_of hX hP hD hS [1, 2] rfl (by decide) U hU hW⟩⟩ rfl rfl hl.1 rfl (lv_room (Nat.le_of_ble_eq_true rfl)) dX4_becomes_25 ⟨Nat.zero_le _, Nat.zero_le _⟩) hX hP hD hS [1, 2] [0] rfl rfl (by decide) (by decide) (fun r_4 u H locs hw hP hD hS => ?_)
      obtain ⟨v_row_many_2, v_row_numbers_3⟩ := u
      have hP : va_P K.1 vwCl [(q_h, .inr (3, [.ref q_h_row, .int v_bits])), (q_h_row, .inr (2, [.ref q_h_row_numbers, .int v_row_many_2])), (q_h_row_numbers, .inl (K.2.2.1, 40, .inl v_row_numbers_3))] H := hP.sub [0, 1, 2] rfl
      have hD : va_D A [(q_h, .inr (3, [.ref q_h_row, .int v_bits])), (q_h_row, .inr (2, [.ref q_h_row_numbers, .int v_row_many_2])), (q_h_row_numbers, .inl (K.2.2.1, 40, .inl v_row_numbers_3))] := hD.sub [0, 1, 2] (by decide) rfl
      have hz_r_4 := hw.1
      have hw := hw.2
      refine lv_pop hx hb dX4_becomes_28 rfl ?_
      refine lv_iinc (v := (x3 + (1 : Int32))) (lv' := [(3, .int (x3 + (1 : Int32))), (0, .ref q_h), (2, .int a2)]) hx hb dX4_becomes_29 hl (k := 2) rfl rfl (by decide) rfl (fun ls hl => ?_)
      refine lv_goto (tgt := 15) hx hb dX4_becomes_32 (by decide) ?_
      exact ih _ _ _ _ _ _ _ hw hP hD hS (lv_sub hl [1, 2, 0] rfl)
set_option maxHeartbeats 4000000 in
set_option maxRecDepth 100000 in
theorem c_X4_becomes (l : Launch) (K : vGl) (q_h q_h_row q_h_row_numbers : Nat)   (sz : Nat) (a1 : Int32) (a2 : Int32) (v_bits : Int32) (v_row_many : Int32) (v_row_numbers : Nat → Int32) (post : Int32 → Int32 → (Nat → Int32) → Prop) (hw : wp_X4_becomes a1 a2 v_bits v_row_many v_row_numbers post) : Met l yX4_becomes (.code yX4_becomes cX4_becomes 4 (none : Option Jvm.ClassFile.FieldType) :: vT) rm_X4_becomes (va_Pc [.ref q_h, .int a1, .int a2] (vPre K [(q_h, .inr (3, [.ref q_h_row, .int v_bits])), (q_h_row, .inr (2, [.ref q_h_row_numbers, .int v_row_many])), (q_h_row_numbers, .inl (K.2.2.1, 40, .inl v_row_numbers))] sz)) (Qc_X4_becomes K q_h q_h_row q_h_row_numbers post (va_A [(q_h, .inr (3, [.ref q_h_row, .int v_bits])), (q_h_row, .inr (2, [.ref q_h_row_numbers, .int v_row_many])), (q_h_row_numbers, .inl (K.2.2.1, 40, .inl v_row_numbers))] sz)) 0 0 (va_A [(q_h, .inr (3, [.ref q_h_row, .int v_bits])), (q_h_row, .inr (2, [.ref q_h_row_numbers, .int v_row_many])), (q_h_row_numbers, .inl (K.2.2.1, 40, .inl v_row_numbers))] sz) := by
  unfold wp_X4_becomes at hw
  refine Met.ofW (cc := cX4_becomes) (maxL := 4) (ret := (none : Option Jvm.ClassFile.FieldType)) (by decide) rfl ?_
  intro p e s m args below meth c s₁ B hml hv
  obtain ⟨rfl, hsz, hP, hK, hD0, hG, hR⟩ := hv
  have hx := B.exec
  have hb := B.bytes
  have hr := B.returns
  have hts : ∀ w ∈ vT, w.before _ s = true := fun w h => atoms_spec (ws := .code yX4_becomes cX4_becomes 4 (none : Option Jvm.ClassFile.FieldType) :: vT) B.pre w (List.mem_cons_of_mem _ h)
  have hown : s.vm.findClass RX4 = some m.cls := findClass_of_methodNamed B.named
  have hlocks := B.notSynchronized
  subst hsz
  have hD := hD0.self (sz := s.heap.size)
  show W p l e (rm_X4_becomes) s m _ below meth c s.heap [] 0 0 _ _
  generalize hAe : va_A [(q_h, .inr (3, [.ref q_h_row, .int v_bits])), (q_h_row, .inr (2, [.ref q_h_row_numbers, .int v_row_many])), (q_h_row_numbers, .inl (K.2.2.1, 40, .inl v_row_numbers))] s.heap.size = A at hD hG ⊢
  have hX : vX K A s := ⟨hK, hG, hR, fun q h => by rw [← hAe]; exact Or.inr h⟩
  have hS : va_S A s.heap s.heap [] := va_S.rf
  have F : vFx p s m ([.ref q_h, .int a1, .int a2] : List Value).toArray meth c cX4_becomes RX4 4 (none : Option Jvm.ClassFile.FieldType) := ⟨hx, hb, hml, hown, hts, hr, hlocks⟩
  have hl := lv_entry ([.ref q_h, .int a1, .int a2]) (n := 4) (Nat.le_of_ble_eq_true rfl)
  rw [lg_entry_eq]
  generalize (lg_sl ([.ref q_h, .int a1, .int a2]) ++ List.replicate (4 - (lg_sl ([.ref q_h, .int a1, .int a2])).length) Slot.unset).toArray = ls at hl ⊢
  have hl : lv_has ls 4 [(0, .ref q_h), (1, .int a1), (2, .int a2)] := hl
  obtain ⟨H, hHe⟩ : ∃ H, H = s.heap := ⟨_, rfl⟩
  have hS : va_S A s.heap H [] := by rw [hHe]; exact hS
  have hP : va_P K.1 vwCl [(q_h, .inr (3, [.ref q_h_row, .int v_bits])), (q_h_row, .inr (2, [.ref q_h_row_numbers, .int v_row_many])), (q_h_row_numbers, .inl (K.2.2.1, 40, .inl v_row_numbers))] H := by rw [hHe]; exact hP
  refine vWH hHe ?_
  refine lv_aload_n hx hb dX4_becomes_0 rfl (lv_at hl 0 rfl) ?_
  refine lv_iload_n hx hb dX4_becomes_1 rfl (lv_at hl 1 rfl) ?_
  refine va_put (D := K.1) (ci := 3) (v := .int a1) (ty := .int) (C := RX4) (T := TX4) (N := 2) hx hb hts iwX4 tyX4 tyX4_ok nmX4 hown hX.1 hP hD hS 0 rfl rfl 1 (by decide) (hts _ k_258) (fun _ h9 => h9) rfl (by decide +kernel) rfl rfl (Nat.le_of_ble_eq_true rfl) dX4_becomes_2 (fun H locs hP hD hS => ?_)
  have hP : va_P K.1 vwCl [(q_h, .inr (3, [.ref q_h_row, .int a1])), (q_h_row, .inr (2, [.ref q_h_row_numbers, .int v_row_many])), (q_h_row_numbers, .inl (K.2.2.1, 40, .inl v_row_numbers))] H := hP
  have hD : va_D A [(q_h, .inr (3, [.ref q_h_row, .int a1])), (q_h_row, .inr (2, [.ref q_h_row_numbers, .int v_row_many])), (q_h_row_numbers, .inl (K.2.2.1, 40, .inl v_row_numbers))] := hD
  refine lv_aload_n hx hb dX4_becomes_5 rfl (lv_at hl 0 rfl) ?_
  refine va_get (D := K.1) (ci := 3) (v := .ref q_h_row) (C := RX4) (T := TX4) (N := 2) hx hb hts iwX4 hown hX.1 hP 0 rfl rfl 0 (by decide) (hts _ k_256) (fun _ h9 => h9) rfl dX4_becomes_6 ?_
  refine lv_iconst (v := (0 : Int32)) hx hb dX4_becomes_9 (by decide) ?_
  refine va_put (D := K.1) (ci := 2) (v := .int (0 : Int32)) (ty := .int) (C := RX3) (T := TX3) (N := 2) hx hb hts iwX3 tyX3 tyX3_ok nmX3 hown hX.1 hP hD hS 1 rfl rfl 1 (by decide) (hts _ k_110) (fun _ h9 => h9) rfl (by decide +kernel) rfl rfl (Nat.le_of_ble_eq_true rfl) dX4_becomes_10 (fun H locs hP hD hS => ?_)
  have hP : va_P K.1 vwCl [(q_h, .inr (3, [.ref q_h_row, .int a1])), (q_h_row, .inr (2, [.ref q_h_row_numbers, .int (0 : Int32)])), (q_h_row_numbers, .inl (K.2.2.1, 40, .inl v_row_numbers))] H := hP
  have hD : va_D A [(q_h, .inr (3, [.ref q_h_row, .int a1])), (q_h_row, .inr (2, [.ref q_h_row_numbers, .int (0 : Int32)])), (q_h_row_numbers, .inl (K.2.2.1, 40, .inl v_row_numbers))] := hD
  refine lv_iconst (v := (0 : Int32)) hx hb dX4_becomes_13 (by decide) ?_
  refine lv_istore_n (lv' := [(3, .int (0 : Int32)), (0, .ref q_h), (1, .int a1), (2, .int a2)]) hx hb dX4_becomes_14 rfl hl (by decide) rfl (fun ls hl => ?_)
  obtain ⟨k, hw⟩ := hw
  exact t_X4_becomes_b15 F hX k _ _ _ _ _ _ _ hw hP hD hS (lv_sub hl [1, 3, 0] rfl)
/-! OvenRings$Sheet.cut(I)I -/
def wp_X4_cut (a1 : Int32) (v_bits : Int32) (post : Int32 → Prop) : Prop := (v_bits = (8 : Int32) → (post a1.toInt8.toInt32)) ∧ (¬ v_bits = (8 : Int32) → ((v_bits = (16 : Int32) → (post a1.toInt16.toInt32)) ∧ (¬ v_bits = (16 : Int32) → (post a1))))
abbrev rm_X4_cut : Room := { frames := 0, cells := 0, slots := 0, locals := 0 }
abbrev Qc_X4_cut (K : vGl) (q_h : Nat)  (g_h_row : Value) (v_bits : Int32) (post : Int32 → Prop) (A : Nat → Prop) : Array Value → State → Outcome → State → Prop := va_Qi (fun (r : Int32) (u : Unit) => post r ) (fun u t => vB K A [(q_h, .inr (3, [g_h_row, .int v_bits]))] t) A
set_option maxHeartbeats 4000000 in
set_option maxRecDepth 100000 in
theorem c_X4_cut (l : Launch) (K : vGl) (q_h : Nat)  (g_h_row : Value) (sz : Nat) (a1 : Int32) (v_bits : Int32) (post : Int32 → Prop) (hw : wp_X4_cut a1 v_bits post) : Met l yX4_cut (.code yX4_cut cX4_cut 2 (some .int) :: vT) rm_X4_cut (va_Pc [.ref q_h, .int a1] (vPre K [(q_h, .inr (3, [g_h_row, .int v_bits]))] sz)) (Qc_X4_cut K q_h g_h_row v_bits post (va_A [(q_h, .inr (3, [g_h_row, .int v_bits]))] sz)) 0 0 (va_A [(q_h, .inr (3, [g_h_row, .int v_bits]))] sz) := by
  unfold wp_X4_cut at hw
  refine Met.ofW (cc := cX4_cut) (maxL := 2) (ret := (some .int)) (by decide) rfl ?_
  intro p e s m args below meth c s₁ B hml hv
  obtain ⟨rfl, hsz, hP, hK, hD0, hG, hR⟩ := hv
  have hx := B.exec
  have hb := B.bytes
  have hr := B.returns
  have hts : ∀ w ∈ vT, w.before _ s = true := fun w h => atoms_spec (ws := .code yX4_cut cX4_cut 2 (some .int) :: vT) B.pre w (List.mem_cons_of_mem _ h)
  have hown : s.vm.findClass RX4 = some m.cls := findClass_of_methodNamed B.named
  have hlocks := B.notSynchronized
  subst hsz
  have hD := hD0.self (sz := s.heap.size)
  show W p l e (rm_X4_cut) s m _ below meth c s.heap [] 0 0 _ _
  generalize hAe : va_A [(q_h, .inr (3, [g_h_row, .int v_bits]))] s.heap.size = A at hD hG ⊢
  have hX : vX K A s := ⟨hK, hG, hR, fun q h => by rw [← hAe]; exact Or.inr h⟩
  have hS : va_S A s.heap s.heap [] := va_S.rf
  have F : vFx p s m ([.ref q_h, .int a1] : List Value).toArray meth c cX4_cut RX4 2 (some .int) := ⟨hx, hb, hml, hown, hts, hr, hlocks⟩
  have hl := lv_entry ([.ref q_h, .int a1]) (n := 2) (Nat.le_of_ble_eq_true rfl)
  rw [lg_entry_eq]
  generalize (lg_sl ([.ref q_h, .int a1]) ++ List.replicate (2 - (lg_sl ([.ref q_h, .int a1])).length) Slot.unset).toArray = ls at hl ⊢
  have hl : lv_has ls 2 [(0, .ref q_h), (1, .int a1)] := hl
  obtain ⟨H, hHe⟩ : ∃ H, H = s.heap := ⟨_, rfl⟩
  have hS : va_S A s.heap H [] := by rw [hHe]; exact hS
  have hP : va_P K.1 vwCl [(q_h, .inr (3, [g_h_row, .int v_bits]))] H := by rw [hHe]; exact hP
  refine vWH hHe ?_
  refine lv_aload_n hx hb dX4_cut_0 rfl (lv_at hl 0 rfl) ?_
  refine va_get (D := K.1) (ci := 3) (v := .int v_bits) (C := RX4) (T := TX4) (N := 2) hx hb hts iwX4 hown hX.1 hP 0 rfl rfl 1 (by decide) (hts _ k_258) (fun _ h9 => h9) rfl dX4_cut_1 ?_
  refine lv_bipush (v := (8 : Int32)) hx hb dX4_cut_4 (by decide) ?_
  refine lv_icmp_ne (tgt := 12) hx hb dX4_cut_6 (by decide) (fun c_1 => ?_) (fun c_1 => ?_)
  · have hw := hw.2 c_1
    refine lv_aload_n hx hb dX4_cut_12 rfl (lv_at hl 0 rfl) ?_
    refine va_get (D := K.1) (ci := 3) (v := .int v_bits) (C := RX4) (T := TX4) (N := 2) hx hb hts iwX4 hown hX.1 hP 0 rfl rfl 1 (by decide) (hts _ k_258) (fun _ h9 => h9) rfl dX4_cut_13 ?_
    refine lv_bipush (v := (16 : Int32)) hx hb dX4_cut_16 (by decide) ?_
    refine lv_icmp_ne (tgt := 26) hx hb dX4_cut_18 (by decide) (fun c_2 => ?_) (fun c_2 => ?_)
    · have hw := hw.2 c_2
      refine lv_iload_n hx hb dX4_cut_26 rfl (lv_at hl 1 rfl) ?_
      exact W.iret (v := a1) hx hb hr (fun t ht hW => ⟨⟨a1, (), rfl, hw, by rw [ht]; exact hP, va_K.moved hW.alike hX.1, hD⟩, hS.F ht⟩) hS.2.2 dX4_cut_27 hlocks
    · have hw := hw.1 c_2
      refine lv_iload_n hx hb dX4_cut_21 rfl (lv_at hl 1 rfl) ?_
      refine lv_i2s hx hb dX4_cut_22 rfl ?_
      refine lv_goto (tgt := 27) hx hb dX4_cut_23 (by decide) ?_
      exact W.iret (v := a1.toInt16.toInt32) hx hb hr (fun t ht hW => ⟨⟨a1.toInt16.toInt32, (), rfl, hw, by rw [ht]; exact hP, va_K.moved hW.alike hX.1, hD⟩, hS.F ht⟩) hS.2.2 dX4_cut_27 hlocks
  · have hw := hw.1 c_1
    refine lv_iload_n hx hb dX4_cut_9 rfl (lv_at hl 1 rfl) ?_
    refine lv_i2b hx hb dX4_cut_10 rfl ?_
    exact W.iret (v := a1.toInt8.toInt32) hx hb hr (fun t ht hW => ⟨⟨a1.toInt8.toInt32, (), rfl, hw, by rw [ht]; exact hP, va_K.moved hW.alike hX.1, hD⟩, hS.F ht⟩) hS.2.2 dX4_cut_11 hlocks
