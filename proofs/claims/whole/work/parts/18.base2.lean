/-! BASE 2 -/
abbrev vFx (p : Program) (s : State) (m : MethodId) (args : Array Value) (meth : Method) (c : Code) (cc : ByteArray) (own : String) (nL : Nat) (rt : Option FieldType) : Prop := p.tables.exec = Jvm.exec ∧ c.code = cc ∧ c.maxLocals = nL ∧ s.vm.findClass own = some m.cls ∧ (∀ w ∈ vT, w.before args s = true) ∧ meth.sig.returnType = rt ∧ meth.locks = false
theorem vWH {p : Program} {l : Launch} {e : Env} {R : Room} {s : State} {m : MethodId} {args : Array Value} {below : List Frame} {meth : Method} {c : Code} {H H' : Heap} {locs : List Loc} {cells slots : Nat} {Q : State → Prop} {g : JFrame} (h : H = H') (k : W p l e R s m args below meth c H locs cells slots Q g) : W p l e R s m args below meth c H' locs cells slots Q g := by rw [← h]; exact k
theorem vin {i : Int32} {n : Nat} (h : (decide (i < 0) || decide (n ≤ i.toNatClampNeg)) = false) : vp_in i n := by
  rw [Bool.or_eq_false_iff] at h
  exact fun q => q.elim (of_decide_eq_false h.1) (of_decide_eq_false h.2)
theorem vI_ne {x y : Int32} (h : ¬ x = y) {z : Int} (hz : y.toInt = z) : ¬ x.toInt = z := fun q => h (Int32.toInt_inj.mp (q.trans hz.symm))
def vSh (a b c d : Nat) : Nat → Option Nat := fun j => ([some a, some b, some c, some d] : List (Option Nat)).getD j none
abbrev vmn (x y : Int32) : Int32 := if y < x then y else x
abbrev vmx (x y : Int32) : Int32 := if x < y then y else x
abbrev vrem (x y : Int32) : Int32 := x - x / y * y
theorem lkp {x v : Int32} {ps : List (Int × Int)} {d off : Int} (h : x = v) (h2 : Op.lookupswitch.offset ps d v.toInt = off) : Op.lookupswitch.offset ps d x.toInt = off := by rw [h]; exact h2
