/-! BASE -/
theorem vTin {ws : List Cond} (h : ∀ w ∈ ws, w ∈ vT) : GoodIn vT ws := fun w hw => ⟨h w hw, vTg (h w hw)⟩
theorem vIc {a : Cond} {ws : List Cond} (ha : a ∈ vT) (h : ∀ w ∈ ws, w ∈ vT) : ∀ w ∈ a :: ws, w ∈ vT := List.forall_mem_cons.mpr ⟨ha, h⟩
theorem vIs : ∀ w ∈ vT, w ∈ vT := fun _ h => h
theorem vGoodV {own : String} {idx : Nat} {C : String} {y : MethodName} {k : Cond} (h1 : Cond.methodLink own idx y ∈ vT) (h2 : Cond.instanceMethod y ∈ vT) (h3 : Cond.selects C y y ∈ vT) (h4 : Cond.initialized C ∈ vT) (h5 : k ∈ vT) : GoodIn vT (wsV own idx C y (k :: vT)) := vTin (vIc h1 (vIc h2 (vIc h3 (vIc h4 (vIc h5 vIs)))))
theorem vGoodS {own : String} {idx : Nat} {y : MethodName} {k : Cond} (h1 : Cond.methodLink own idx y ∈ vT) (h2 : Cond.static y ∈ vT) (h4 : Cond.initialized y.cls ∈ vT) (h5 : k ∈ vT) : GoodIn vT (va_wsS own idx y (k :: vT)) := vTin (vIc h1 (vIc h2 (vIc h4 (vIc h5 vIs))))
theorem vGoodI {k : Cond} (h5 : k ∈ vT) : GoodIn vT (k :: vT) := vTin (vIc h5 vIs)
/-- the tables ABOVE and BODIES, the texts "", "fhw", "drh" -/
def vAbove (j : Nat) : Int32 := ([-1, 0, 0, 0, 1, 2, 3] : List Int32).getD j 0
def vBodies (j : Nat) : Int32 := ([10, 11, 12, 13, 20, 0, 0, 0, 0, 30, 0, 0, 0, 0, 40, 0, 0, 0, 0, 50, 0, 60, 0, 0, 0, 0, 70, 71] : List Int32).getD j 0
def vLen : List Nat := [0, 3, 3]
def vByt : List (List Int32) := [[], [102, 104, 119], [100, 114, 104]]
abbrev vGa : Type := (Nat → Nat) × (Nat → Nat) × Nat × Nat
/-- what lies outside and never changes: the static rows and the text constants -/
def vG (g : vGa) (A : Nat → Prop) (U : State) (H : Heap) : Prop :=
  va_Z "OvenRings$Kinds" "ABOVE" "[I" (.ref g.2.2.1) A U H ∧ va_T .int g.2.2.1 7 (fun j => .int (vAbove j)) A U H ∧
  va_Z "OvenRings$Voice" "BODIES" "[I" (.ref g.2.2.2) A U H ∧ va_T .int g.2.2.2 28 (fun j => .int (vBodies j)) A U H ∧
  va_Z "java/lang/String" "COMPACT_STRINGS" "Z" (.int 1) A U H ∧ vk_S 3 vLen vByt g.1 g.2.1 A U H ∧
  va_Zq "jdk/internal/util/Preconditions" "SIOOBE_FORMATTER" "Ljava/util/function/BiFunction;" A U H
theorem vG.moved {g : vGa} {A : Nat → Prop} {u U : State} {H : Heap} (hvm : u.vm.Alike U.vm) (h : vG g A u H) : vG g A U H := ⟨va_Z.moved hvm h.1, va_T.moved hvm h.2.1, va_Z.moved hvm h.2.2.1, va_T.moved hvm h.2.2.2.1, va_Z.moved hvm h.2.2.2.2.1, vk_S.moved hvm h.2.2.2.2.2.1, va_Zq.moved hvm h.2.2.2.2.2.2⟩
theorem vG.kept {g : vGa} {A : Nat → Prop} {U : State} {H H1 : Heap} (h : vG g A U H) (hq : ∀ a : Nat, a < H.size → ¬ A a → H1[a]? = H[a]?) : vG g A U H1 := ⟨h.1.kept hq, h.2.1.kept hq, h.2.2.1.kept hq, h.2.2.2.1.kept hq, h.2.2.2.2.1.kept hq, h.2.2.2.2.2.1.kept hq, h.2.2.2.2.2.2.kept hq⟩
theorem vG.narrow {g : vGa} {A B : Nat → Prop} {U : State} {H : Heap} (h : vG g A U H) (hAB : ∀ q, B q → A q) : vG g B U H := ⟨h.1.narrow hAB, h.2.1.narrow hAB, h.2.2.1.narrow hAB, h.2.2.2.1.narrow hAB, h.2.2.2.2.1.narrow hAB, h.2.2.2.2.2.1.narrow hAB, h.2.2.2.2.2.2.narrow hAB⟩
/-- the text constants' links -/
def vR (g : vGa) (U : State) : Prop := vk_R "OvenRings$Reader" 23 "" (g.1 0) U ∧ vk_R "OvenRings" 153 "fhw" (g.1 1) U ∧ vk_R "OvenRings" 155 "drh" (g.1 2) U ∧ va_Nw (.methodLinkNest RX7 9 yX5_init "OvenRings") U ∧ va_Nw (.methodLinkNest RX7 24 yX2_init "OvenRings") U ∧ va_Nw (.methodLinkNest RX7 31 yX6_init "OvenRings") U ∧ va_Nw (.methodLinkNest RX7 49 yX4_init "OvenRings") U
theorem vR.warm {g : vGa} {s U : State} (hW : s.WarmedH U.vm) (h : vR g s) : vR g U := ⟨h.1.warm hW, h.2.1.warm hW, h.2.2.1.warm hW, h.2.2.2.1.warmM hW, h.2.2.2.2.1.warmM hW, h.2.2.2.2.2.1.warmM hW, h.2.2.2.2.2.2.warmM hW⟩
theorem vR.same {g : vGa} {u U : State} (hv : U.vm = u.vm) (h : vR g u) : vR g U := ⟨h.1.same hv, h.2.1.same hv, h.2.2.1.same hv, h.2.2.2.1.same rfl hv.symm, h.2.2.2.2.1.same rfl hv.symm, h.2.2.2.2.2.1.same rfl hv.symm, h.2.2.2.2.2.2.same rfl hv.symm⟩
abbrev vGl : Type := va_G × vGa × ClassId × ClassId
/-- the two array classes: rows of ints, and the row of SHEETS -/
abbrev vTy (K : vGl) : List (ClassId × FieldType) := [(K.2.2.1, .int), (K.2.2.2, .object "OvenRings$Sheet")]
/-- a contract's start: the world ws, the classes, what lies outside -/
def vPre (K : vGl) (ws : va_W) (sz : Nat) (U : State) : Prop := U.heap.size = sz ∧ va_P K.1 vwCl ws U.heap ∧ va_K K.1 vwCl (vTy K) U ∧ va_D (fun _ => True) ws ∧ vG K.2.1 (va_A ws sz) U U.heap ∧ vR K.2.1 U
theorem vPre_blind {K : vGl} {ws : va_W} {sz : Nat} {av : List Value} : FrameBlind (va_Pc av (vPre K ws sz)) := fun a U g mk q => by
  obtain ⟨q0, q1, qP, qK, qD, qG, qR⟩ := q
  exact ⟨q0, q1, qP, va_K.moved (u := U) (U := U.calling g mk a) (Vm.Alike.refl U.vm) qK, qD, vG.moved (u := U) (U := U.calling g mk a) (Vm.Alike.refl U.vm) qG, vR.same (u := U) (U := U.calling g mk a) rfl qR⟩
/-- what a walk carries along: the classes, the static rows (as they were at its start), the region that it may write -/
abbrev vX (K : vGl) (A : Nat → Prop) (s : State) : Prop := va_K K.1 vwCl (vTy K) s ∧ vG K.2.1 A s s.heap ∧ vR K.2.1 s ∧ ∀ q : Nat, s.heap.size ≤ q → A q
theorem vPre_of {K : vGl} {A : Nat → Prop} {ws wc : va_W} {s : State} {H : Heap} {locs : List Loc} (hX : vX K A s) (hP : va_P K.1 vwCl ws H) (hD : va_D A ws) (hS : va_S A s.heap H locs) (isC : List Nat) (hC : isC.map (fun i => ws[i]?) = wc.map some) (hn : va_nd isC = true) : ∀ U : State, U.heap = H → s.WarmedH U.vm → vPre K wc H.size U := fun U hU hW => by
  have hPc : va_P K.1 vwCl wc H := hP.sub isC (by
    have := congrArg (fun l : List (Option (Nat × va_E)) => l.filterMap id) hC
    simpa [List.filterMap_map, Function.comp_def] using this)
  have hDc : va_D A wc := hD.sub isC hn hC
  have hFc := va_free (wc := wc) hD hS hX.2.2.2 isC hC
  refine ⟨by rw [hU], by rw [hU]; exact hPc, va_K.moved hW.alike hX.1, hDc.weaken (fun _ _ _ _ => trivial), ?_, hX.2.2.1.warm hW⟩
  rw [hU]
  exact vG.moved hW.alike ((hX.2.1.kept hS.2.1).narrow hFc)
/-- the world behind a contract -/
abbrev vB (K : vGl) (A : Nat → Prop) (ws : va_W) (t : State) : Prop := va_P K.1 vwCl ws t.heap ∧ va_K K.1 vwCl (vTy K) t ∧ va_D A ws
section V1
variable {p : Program} {l : Launch} {e : Env} {R : Room} {s : State} {m : MethodId} {args a1 : Array Value} {below : List Frame} {meth : Method} {c : Code} {H : Heap} {locs : List Loc} {cells slots mc ms : Nat} {Q : State → Prop} {pc : Nat} {ls : Array Slot} {rest st0 : List Value} {K : vGl} {A : Nat → Prop} {ws wc wr : va_W} {U : Type}
theorem vCalli {post : Int32 → U → Prop} {w1 : U → va_W} (hr : va_Run p l e R s m args below meth c H locs cells slots 0 0 (F0 m pc ls st0) rest (va_Qi post (fun u t => vB K (va_A wc H.size) (w1 u) t) (va_A wc H.size) a1) (va_A wc H.size)) (hX : vX K A s) (hP : va_P K.1 vwCl ws H) (hD : va_D A ws) (hS : va_S A s.heap H locs) (isC isR : List Nat) (hC : isC.map (fun i => ws[i]?) = wc.map some) (hR : isR.map (fun i => ws[i]?) = wr.map some) (hn : va_nd isR = true) (hdis : ∀ i ∈ isR, i ∉ isC)
    (kk : ∀ (r : Int32) (u : U) (H1 : Heap) (locs1 : List Loc), post r u → va_P K.1 vwCl (wr ++ w1 u) H1 → va_D A (wr ++ w1 u) → va_S A s.heap H1 locs1 → W p l e R s m args below meth c H1 locs1 cells slots Q (F0 m (pc + 3) ls (.int r :: rest))) : W p l e R s m args below meth c H locs cells slots Q (F0 m pc ls st0) := by
  have hFc := va_free (wc := wc) hD hS hX.2.2.2 isC hC
  refine va_calli hr hS (fun q _ h => hFc q h) hFc (fun r u t H1 locs1 ht hvm hw hB hz1 hk1 hS1 => ?_)
  obtain ⟨hP1, -, hD1⟩ := hB
  rw [ht] at hP1
  obtain ⟨hP2, hD2⟩ := va_join (wr := wr) (w1 := w1 u) hP hD isC isR hC hR hn hdis hk1 hFc hP1 hD1
  exact kk r u H1 locs1 hw hP2 hD2 hS1
theorem vCallv {post : U → Prop} {w1 : U → va_W} (hr : va_Run p l e R s m args below meth c H locs cells slots 0 0 (F0 m pc ls st0) rest (va_Qv post (fun u t => vB K (va_A wc H.size) (w1 u) t) (va_A wc H.size) a1) (va_A wc H.size)) (hX : vX K A s) (hP : va_P K.1 vwCl ws H) (hD : va_D A ws) (hS : va_S A s.heap H locs) (isC isR : List Nat) (hC : isC.map (fun i => ws[i]?) = wc.map some) (hR : isR.map (fun i => ws[i]?) = wr.map some) (hn : va_nd isR = true) (hdis : ∀ i ∈ isR, i ∉ isC)
    (kk : ∀ (u : U) (H1 : Heap) (locs1 : List Loc), post u → va_P K.1 vwCl (wr ++ w1 u) H1 → va_D A (wr ++ w1 u) → va_S A s.heap H1 locs1 → W p l e R s m args below meth c H1 locs1 cells slots Q (F0 m (pc + 3) ls rest)) : W p l e R s m args below meth c H locs cells slots Q (F0 m pc ls st0) := by
  have hFc := va_free (wc := wc) hD hS hX.2.2.2 isC hC
  refine va_callv hr hS (fun q _ h => hFc q h) hFc (fun u t H1 locs1 ht hvm hw hB hz1 hk1 hS1 => ?_)
  obtain ⟨hP1, -, hD1⟩ := hB
  rw [ht] at hP1
  obtain ⟨hP2, hD2⟩ := va_join (wr := wr) (w1 := w1 u) hP hD isC isR hC hR hn hdis hk1 hFc hP1 hD1
  exact kk u H1 locs1 hw hP2 hD2 hS1
theorem vCallr {post : U → Prop} {w1 : U → va_W} {o : Nat} (hr : va_Run p l e R s m args below meth c H locs cells slots 0 0 (F0 m pc ls st0) rest (va_Qr post (fun u b t => b = o ∧ vB K (va_A wc H.size) (w1 u) t) (va_A wc H.size) a1) (va_A wc H.size)) (hX : vX K A s) (hP : va_P K.1 vwCl ws H) (hD : va_D A ws) (hS : va_S A s.heap H locs) (isC isR : List Nat) (hC : isC.map (fun i => ws[i]?) = wc.map some) (hR : isR.map (fun i => ws[i]?) = wr.map some) (hn : va_nd isR = true) (hdis : ∀ i ∈ isR, i ∉ isC)
    (kk : ∀ (u : U) (H1 : Heap) (locs1 : List Loc), post u → va_P K.1 vwCl (wr ++ w1 u) H1 → va_D A (wr ++ w1 u) → va_S A s.heap H1 locs1 → W p l e R s m args below meth c H1 locs1 cells slots Q (F0 m (pc + 3) ls (.ref o :: rest))) : W p l e R s m args below meth c H locs cells slots Q (F0 m pc ls st0) := by
  have hFc := va_free (wc := wc) hD hS hX.2.2.2 isC hC
  refine va_callr hr hS (fun q _ h => hFc q h) hFc (fun u b t H1 locs1 ht hvm hw hB hz1 hk1 hS1 => ?_)
  obtain ⟨hb0, hP1, -, hD1⟩ := hB
  rw [ht] at hP1
  obtain ⟨hP2, hD2⟩ := va_join (wr := wr) (w1 := w1 u) hP hD isC isR hC hR hn hdis hk1 hFc hP1 hD1
  rw [hb0]
  exact kk u H1 locs1 hw hP2 hD2 hS1
end V1
theorem vZ0 : narrow .boolean (.int 0) = .int 0 := by decide +kernel
theorem vZ1 : narrow .boolean (.int 1) = .int 1 := by decide +kernel
theorem vZb {r : Int32} (h : r = 0 ∨ r = 1) : narrow .boolean (.int r) = .int r := by rcases h with rfl | rfl <;> decide +kernel
/-! BASE 2 -/
abbrev vFx (p : Program) (s : State) (m : MethodId) (args : Array Value) (meth : Method) (c : Code) (cc : ByteArray) (own : String) (nL : Nat) (rt : Option FieldType) : Prop := p.tables.exec = Jvm.exec ∧ c.code = cc ∧ c.maxLocals = nL ∧ s.vm.findClass own = some m.cls ∧ (∀ w ∈ vT, w.before args s = true) ∧ meth.sig.returnType = rt ∧ meth.locks = false
theorem vWH {p : Program} {l : Launch} {e : Env} {R : Room} {s : State} {m : MethodId} {args : Array Value} {below : List Frame} {meth : Method} {c : Code} {H H' : Heap} {locs : List Loc} {cells slots : Nat} {Q : State → Prop} {g : JFrame} (h : H = H') (k : W p l e R s m args below meth c H locs cells slots Q g) : W p l e R s m args below meth c H' locs cells slots Q g := by rw [← h]; exact k
theorem vin {i : Int32} {n : Nat} (h : (decide (i < 0) || decide (n ≤ i.toNatClampNeg)) = false) : vp_in i n := by
  rw [Bool.or_eq_false_iff] at h
  exact fun q => q.elim (of_decide_eq_false h.1) (of_decide_eq_false h.2)
theorem vI_ne {x y : Int32} (h : ¬ x = y) {z : Int} (hz : y.toInt = z) : ¬ x.toInt = z := fun q => h (Int32.toInt_inj.mp (q.trans hz.symm))
def vSh (a b c d : Nat) : Nat → Option Nat := fun j => ([some a, some b, some c, some d] : List (Option Nat)).getD j none
abbrev vmn (x y : Int32) : Int32 := if y < x then y else x
abbrev vmx (x y : Int32) : Int32 := if x < y then y else x
abbrev vrem (x y : Int32) : Int32 := x - x / y * y
theorem lkp {x v : Int32} {ps : List (Int × Int)} {d off : Int} (h : x = v) (h2 : Op.lookupswitch.offset ps d v.toInt = off) : Op.lookupswitch.offset ps d x.toInt = off := by rw [h]; exact h2
theorem va_Zq.one {C n d : String} {A : Nat → Prop} {U : State} {H : Heap} (h : va_Zq C n d A U H) : ∃ o : Option Nat, va_Z C n d (va_rf o) A U H := h.elim (fun h => ⟨none, h⟩) (fun ⟨t, h⟩ => ⟨some t, h⟩)
