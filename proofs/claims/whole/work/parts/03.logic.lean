/-! the small machine: cells by number; a reference is the number of its cell, the script is null -/
abbrev zM : Type := Nat → Nat → Int32
abbrev zR : Type := Nat → Nat → Option Nat
abbrev zS : Type := Nat × zR × zM
abbrev zX : Type := Nat × Nat × va_G × ClassId × ClassId × ClassId
abbrev zMt : Type := MethodName × ByteArray × Nat × Option FieldType × Nat × Nat
def zKl : List (Nat × Nat) := [(8, 0), (1, 0), (3, 0), (12, 3), (10, 15), (10, 15), (10, 15), (10, 3), (10, 15), (10, 16), (10, 41), (10, 41), (10, 81), (7, 0), (10, 12), (10, 12), (10, 12), (0, 0), (10, 16), (10, 16), (12, 3), (10, 5), (10, 5), (10, 5), (10, 60), (10, 60), (10, 60), (12, 60), (10, 5), (10, 5), (10, 5), (10, 5), (10, 5), (10, 5), (10, 5), (10, 5), (10, 5), (10, 5), (10, 5), (10, 5), (10, 5), (10, 5), (10, 5), (10, 5), (10, 5), (10, 5), (10, 5), (10, 5), (10, 5), (10, 5), (10, 5), (10, 5), (10, 5), (10, 5), (10, 5), (10, 5), (10, 5), (10, 5), (10, 5), (10, 5), (10, 5), (10, 5), (10, 5), (10, 5), (10, 5), (10, 5), (10, 5), (10, 5), (10, 5), (10, 5), (10, 5), (10, 5), (10, 5), (10, 5), (10, 5), (10, 5), (10, 5), (10, 5), (10, 5), (10, 5), (10, 5), (10, 5), (10, 5), (10, 5), (10, 5), (10, 5), (10, 5), (10, 5), (4, 0), (10, 23328), (12, 3), (10, 16), (10, 16), (10, 16), (10, 3), (10, 3), (10, 16), (10, 5), (5, 0), (12, 7), (10, 16), (10, 16), (10, 16), (10, 16), (10, 16), (10, 16), (10, 16), (12, 4), (10, 16), (10, 16), (10, 16), (10, 16), (10, 6), (10, 6), (6, 0), (10, 8), (10, 8), (2, 0), (10, 6), (10, 6), (12, 7), (10, 2101), (10, 2101), (10, 2101), (10, 2101), (10, 2101), (10, 2101), (10, 2101), (9, 0), (10, 16), (10, 16), (10, 45), (10, 12), (10, 12), (10, 12), (10, 15), (10, 60), (10, 60), (10, 60), (10, 300), (10, 112), (10, 9), (10, 6), (10, 6), (10, 3), (10, 3), (10, 24624), (10, 16), (11, 2592), (10, 6), (10, 6), (10, 10), (10, 9), (10, 102949)]
def zK (k : Nat) : Nat × Nat := zKl.getD k (14, 0)
def zNl : List Nat := [11, 3, 6, 12, 9, 7, 3, 5, 9, 37]
def zN (c : Nat) : Nat := zNl.getD c 0
def zIl : List (List Bool) := [[true, true, true, true, true, true, true, false, false, false, false], [false, false, false], [true, true, true, false, false, false], [true, true, true, true, true, true, true, false, false, false, false, false], [true, true, true, true, true, true, true, false, false], [true, true, true, true, false, false, false], [true, true, false], [true, true, true, true, false], [true, true, true, true, true, true, true, true, false], [false, true, true, false, false, false, true, false, false, true, true, true, true, false, false, true, true, true, true, true, true, false, true, true, false, true, true, false, true, true, true, true, true, false, true, true, true]]
def zIR (c j : Nat) : Bool := (zIl.getD c []).getD j false
def zSz (k : Nat) : Nat := if (zK k).1 < 10 then zN (zK k).1 else (zK k).2
def zSum : Nat → Nat
  | 0 => 0
  | n + 1 => zSum n + zSz n
def zRl : List (Nat × List (Option Nat)) := [(0, [some 1, some 2, some 13, some 17, some 88, some 98, some 114, some 117, none]), (1, [none, none, none]), (2, [some 3, some 7, some 8, some 9, some 10, some 11, some 12, none, none, none, none, none]), (13, [some 2, some 14, some 15, some 16, none]), (17, [some 18, some 19, some 20, some 24, some 25, some 26, some 27, none, none, none, none]), (88, [some 17, some 89, some 90, some 94, some 95, some 96, some 97, none, none]), (98, [some 99, some 107, some 112, some 113, none, none, none]), (114, [some 115, some 116, none]), (117, [some 118, some 119, some 120, none, none, none]), (128, [none, some 129, some 130, none, none, none, some 131, none, none, some 132, some 133, some 134, some 135, none, none, some 136, some 137, some 138, some 139, some 140, some 141, none, some 142, some 143, none, some 144, some 145, none, some 146, some 147, some 148, some 149, some 150, none, some 151, some 152, some 153])]
/-- the references once all is made -/
def zRF : zR := fun k i => if k < 154 then (if (zK k).1 = 12 then (if i < (zK k).2 then some (k + 1 + i) else none) else ((zRl.lookup k).getD []).getD i none) else none

def zV (X : zX) (v : Value) : Value := match v with
  | .ref k => .ref (X.2.1 + k)
  | .null => .ref X.1
  | v => v
def zFs (X : zX) (rf : zR) (mm : zM) (c k : Nat) : List Value := (List.range (zN c)).map (fun j => if zIR c j then va_rf ((rf k j).map (fun t => X.2.1 + t)) else .int (mm k j))
def zE (X : zX) (rf : zR) (mm : zM) (k : Nat) : va_E :=
  if (zK k).1 < 10 then .inr ((zK k).1, zFs X rf mm (zK k).1 k)
  else if (zK k).1 = 10 then .inl (X.2.2.2.1, (zK k).2, .inl (mm k))
  else if (zK k).1 = 11 then .inl (X.2.2.2.2.2, (zK k).2, .inl (mm k))
  else .inl (X.2.2.2.2.1, (zK k).2, .inr (.inr (.inr (.inr (fun i => (rf k i).map (fun t => X.2.1 + t))))))
def zWs (X : zX) (σ : zS) : va_W := (List.range σ.1).map (fun k => (X.2.1 + k, zE X σ.2.1 σ.2.2 k))
def zAp (X : zX) : Nat → Prop := fun q => X.2.1 ≤ q
def zWX (X : zX) (s : State) (σ : zS) (H : Heap) : Prop := H.size = X.2.1 + σ.1 ∧ σ.1 ≤ 154 ∧ X.1 < X.2.1 ∧ va_P X.2.2.1 vwCl (zWs X σ) H ∧ va_X X.1 (σ.2.2 155 0).toNatClampNeg (σ.2.2 154) s H
def zT : List Cond := lw_tbl.filter goodWord
def zNest : List Cond := [.methodLinkNest RX8 11 yX1_init RX8, .methodLinkNest RX8 34 yX0_init RX8, .methodLinkNest RX8 50 yX5_init RX8, .methodLinkNest RX8 57 yX6_init RX8, .methodLinkNest RX8 64 yX2_init RX8, .methodLinkNest RX0 63 yX8_within RX8]
def zNw (s : State) : Prop := (∀ w ∈ zNest, va_Nw w s) ∧ (Cond.arrayOver (.array .int)).before #[] s = true
def zTy (X : zX) : List (ClassId × FieldType) := [(X.2.2.2.1, .int), (X.2.2.2.2.1, .array .int), (X.2.2.2.2.2, .boolean)]
def zcc (M : zMt) (n : Nat) : Nat := if M.2.2.2.2.2 = 0 then 0 else n - M.2.2.2.2.1
def zss (M : zMt) (n : Nat) : Nat := if M.2.2.2.2.2 = 0 then 0 else zSum n - zSum M.2.2.2.2.1
def zRm (d : Nat) (M : zMt) : Room := { frames := d, cells := zcc M M.2.2.2.2.2, slots := zss M M.2.2.2.2.2, locals := 40 * d }
def zWd (M : zMt) : List Cond := Cond.code M.1 M.2.1 M.2.2.1 M.2.2.2.1 :: zT
def zPairs (X : zX) (L : List (Option Value)) : List (Nat × Value) := (List.range L.length).filterMap (fun i => (L[i]?.join).map (fun v => (i, zV X v)))
def zL (X : zX) (ls : Array Slot) (nL : Nat) (L : List (Option Value)) : Prop := lv_has ls nL (zPairs X L)
def zC (X : zX) (d : Nat) (M : zMt) (p : Program) (R : Room) (s : State) (m : MethodId) (args : Array Value) (meth : Method) (c : Code) : Prop :=
  p.tables.exec = Jvm.exec ∧ c.code = M.2.1 ∧ c.maxLocals = M.2.2.1 ∧ s.vm.findClass M.1.cls = some m.cls ∧ (∀ w ∈ zT, w.before args s = true) ∧ meth.sig.returnType = M.2.2.2.1 ∧ meth.locks = false ∧ va_K X.2.2.1 vwCl (zTy X) s ∧ zNw s ∧ (M.1.name = "<init>" → meth.name = M.1.name) ∧ d ≤ R.frames ∧ 40 * d ≤ R.locals ∧ zcc M M.2.2.2.2.2 ≤ R.cells ∧ zss M M.2.2.2.2.2 ≤ R.slots
def zRet (M : zMt) (pc : Nat) (r : List Value) : Prop := match r with
  | [] => decode M.2.1 pc = .ok (.return_, 1) ∧ M.2.2.2.1 = none
  | [.int v] => decode M.2.1 pc = .ok (.ireturn, 1) ∧ ∃ ty, M.2.2.2.1 = some ty ∧ narrow ty (.int v) = .int v
  | [.long _] => decode M.2.1 pc = .ok (.lreturn, 1) ∧ M.2.2.2.1 = some .long
  | _ => False
def zEnd (M : zMt) (nn : Nat) (σ : zS) : Prop := σ.1 = if M.2.2.2.2.2 = 0 then nn else M.2.2.2.2.2
def zH (X : zX) (M : zMt) (p : Program) (l : Launch) (e : Env) (R : Room) (s : State) (m : MethodId) (args : Array Value) (below : List Frame) (meth : Method) (c : Code) (Q : State → Prop) (nn : Nat) (K : List Value → zS → Prop) : Prop :=
  ∀ (r : List Value) (σ' : zS) (H' : Heap) (locs' : List Loc) (pc' : Nat) (ls' : Array Slot), K r σ' → zEnd M nn σ' → zWX X s σ' H' → va_S (zAp X) s.heap H' locs' → zRet M pc' r →
    W p l e R s m args below meth c H' locs' (zcc M σ'.1) (zss M σ'.1) Q (F0 m pc' ls' (r.map (zV X)))
/-- the method M stands at pc, with these numbers in its places, on its stack and in the cells: it comes to an end that K holds of -/
def wx (d : Nat) (M : zMt) (pc : Nat) (L : List (Option Value)) (st : List Value) (σ : zS) (K : List Value → zS → Prop) : Prop :=
  ∀ (X : zX) (p : Program) (l : Launch) (e : Env) (R : Room) (s : State) (m : MethodId) (args : Array Value) (below : List Frame) (meth : Method) (c : Code) (Q : State → Prop) (nn : Nat),
    zC X d M p R s m args meth c → (M.2.2.2.2.2 = 0 → σ.1 = nn) → zH X M p l e R s m args below meth c Q nn K →
    ∀ (H : Heap) (locs : List Loc) (ls : Array Slot), zWX X s σ H → va_S (zAp X) s.heap H locs → zL X ls M.2.2.1 L →
      W p l e R s m args below meth c H locs (zcc M σ.1) (zss M σ.1) Q (F0 m pc ls (st.map (zV X)))
def zPc (X : zX) (av : List Value) (σ : zS) : Array Value → State → Prop := va_Pc (av.map (zV X)) (fun U => zWX X U σ U.heap ∧ va_K X.2.2.1 vwCl (zTy X) U ∧ zNw U)
def zQc (X : zX) (M : zMt) (nn : Nat) (K : List Value → zS → Prop) : Array Value → State → Outcome → State → Prop := fun _ st oc t =>
  ∃ (r : List Value) (σ' : zS), K r σ' ∧ zEnd M nn σ' ∧ r.length ≤ 1 ∧ oc = .returned ((r.map (zV X)).head?) ∧ zWX X t σ' t.heap ∧ va_F (zAp X) st t
/-- the method M, called with these, comes to an end that K holds of -/
def wm (d : Nat) (M : zMt) (av : List Value) (σ : zS) (K : List Value → zS → Prop) : Prop :=
  ∀ (X : zX) (l : Launch), Met l M.1 (zWd M) (zRm d M) (zPc X av σ) (zQc X M σ.1 K) (zcc M M.2.2.2.2.2) (zss M M.2.2.2.2.2) (zAp X)

