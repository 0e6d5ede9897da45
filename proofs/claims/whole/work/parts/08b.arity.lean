/-! calls by how many they take; arrays by a number -/
def zPV (M' : zMt) (n ci : Nat) : Prop := zCm M' ∧ zIV M' ∧ zNp M' n ∧ ci < 10 ∧ vwCl[ci]?.map (fun q => q.1) = some M'.1.cls ∧ M'.2.2.2.2.2 = 0
def zPS (M' : zMt) (n : Nat) : Prop := zCm M' ∧ Cond.static M'.1 ∈ zT ∧ zNp M' n ∧ M'.2.2.2.2.2 = 0
theorem zRF_out {k n i : Nat} (hk : zK k = (12, n)) (hkn : k < 154) (hi : i < n) : zRF k i = some (k + 1 + i) := by
  unfold zRF
  rw [if_pos hkn, hk, if_pos rfl, if_pos hi]
section ZAR
variable {d : Nat} {M M' : zMt} {pc idx : Nat} {L : List (Option Value)} {rest st av : List Value} {σ : zS} {K : List Value → zS → Prop} {mm : zM}
theorem wx_r0 (h : wx d M pc L rest σ K) : wx d M pc L ([] ++ rest) σ K := h
theorem wx_r1 {v : Value} (h : wx d M pc L (v :: rest) σ K) : wx d M pc L ([v] ++ rest) σ K := h
theorem wx_inc {i : Nat} {n : Int} {v c : Int32} (hd : decode M.2.1 pc = .ok (.iinc i n, 3)) (hl0 : L[i]? = some (some (.int v))) (hc : Int32.ofInt n = c) (hin : i < M.2.2.1) (hno : zNoL L i = true) (kk : wx d M (pc + 3) (L.set i (some (.int (v + c)))) st σ K) : wx d M pc L st σ K := wx_iinc hd hl0 (by rw [hc]) hin hno kk
theorem wx_ialdN {k n j : Nat} {i : Int32} (hd : decode M.2.1 pc = .ok (.iaload, 1)) (hk : zK k = (10, n)) (hkn : k < σ.1) (hi : i = nI j) (hj : j < n ∧ n < 2 ^ 31) (kk : wx d M (pc + 1) L (.int (σ.2.2 k j) :: st) σ K) : wx d M pc L (.int i :: .ref k :: st) σ K := by
  subst hi
  refine wx_iald hd hk hkn (vp_in_nI hj.1 hj.2) ?_
  rw [nI_clamp (Nat.lt_trans hj.1 hj.2)]
  exact kk
theorem wx_zaldN {k n j : Nat} {i : Int32} (hd : decode M.2.1 pc = .ok (.baload, 1)) (hk : zK k = (11, n)) (hkn : k < σ.1) (hi : i = nI j) (hj : j < n ∧ n < 2 ^ 31) (kk : wx d M (pc + 1) L (.int (σ.2.2 k j) :: st) σ K) : wx d M pc L (.int i :: .ref k :: st) σ K := by
  subst hi
  refine wx_zald hd hk hkn (vp_in_nI hj.1 hj.2) ?_
  rw [nI_clamp (Nat.lt_trans hj.1 hj.2)]
  exact kk
theorem wx_iastN {k n j : Nat} {i v : Int32} (hd : decode M.2.1 pc = .ok (.iastore, 1)) (hk : zK k = (10, n)) (hkn : k < σ.1) (hi : i = nI j) (hj : j < n ∧ n < 2 ^ 31) (kk : wx d M (pc + 1) L st (σ.1, σ.2.1, zU σ.2.2 k j v) K) : wx d M pc L (.int v :: .int i :: .ref k :: st) σ K := by
  subst hi
  refine wx_iast hd hk hkn (vp_in_nI hj.1 hj.2) ?_
  rw [nI_clamp (Nat.lt_trans hj.1 hj.2)]
  exact kk
theorem wx_zastN {k n j : Nat} {i v : Int32} (hd : decode M.2.1 pc = .ok (.bastore, 1)) (hk : zK k = (11, n)) (hkn : k < σ.1) (hi : i = nI j) (hj : j < n ∧ n < 2 ^ 31) (hv : vp_nar .boolean v = v) (kk : wx d M (pc + 1) L st (σ.1, σ.2.1, zU σ.2.2 k j v) K) : wx d M pc L (.int v :: .int i :: .ref k :: st) σ K := by
  subst hi
  refine wx_zast hd hk hkn (vp_in_nI hj.1 hj.2) hv ?_
  rw [nI_clamp (Nat.lt_trans hj.1 hj.2)]
  exact kk
theorem wx_aaldN {k n j : Nat} {i : Int32} (hd : decode M.2.1 pc = .ok (.aaload, 1)) (hk : zK k = (12, n)) (hkn : k < σ.1) (hi : i = nI j) (hj : j < n ∧ n < 2 ^ 31) (hr : σ.2.1 k j = some (k + 1 + j)) (kk : wx d M (pc + 1) L (.ref (k + 1 + j) :: st) σ K) : wx d M pc L (.int i :: .ref k :: st) σ K := by
  subst hi
  refine wx_aald hd hk hkn (vp_in_nI hj.1 hj.2) ?_ kk
  rw [nI_clamp (Nat.lt_trans hj.1 hj.2)]
  exact hr
theorem wx_V0 {ci k : Nat} (hd : decode M.2.1 pc = .ok (.invokevirtual idx, 3)) (hp : zPV M' 0 ci) (hlink : Cond.methodLink M.1.cls idx M'.1 ∈ zT) (hk : (zK k).1 = ci) (hkn : k < σ.1) (hrest : (rest.map fun v => v.category).sum ≤ 8) (hnn : σ.1 ≤ M.2.2.2.2.2 ∨ M.2.2.2.2.2 = 0) (kk : wm d M' [.ref k] σ (fun r σ' => wx (d + 1) M (pc + 3) L (r ++ rest) σ' K)) : wx (d + 1) M pc L (.ref k :: rest) σ K :=
  wx_callV (av := []) hd hp.1 hp.2.1 hlink hp.2.2.1 rfl hk hp.2.2.2.1 hp.2.2.2.2.1 hkn hrest (Or.inl hp.2.2.2.2.2) hnn kk
theorem wx_V1 {ci k : Nat} {a1 : Value} (hd : decode M.2.1 pc = .ok (.invokevirtual idx, 3)) (hp : zPV M' 1 ci) (hlink : Cond.methodLink M.1.cls idx M'.1 ∈ zT) (hk : (zK k).1 = ci) (hkn : k < σ.1) (hrest : (rest.map fun v => v.category).sum ≤ 8) (hnn : σ.1 ≤ M.2.2.2.2.2 ∨ M.2.2.2.2.2 = 0) (kk : wm d M' [.ref k, a1] σ (fun r σ' => wx (d + 1) M (pc + 3) L (r ++ rest) σ' K)) : wx (d + 1) M pc L (a1 :: .ref k :: rest) σ K :=
  wx_callV (av := [a1]) hd hp.1 hp.2.1 hlink hp.2.2.1 rfl hk hp.2.2.2.1 hp.2.2.2.2.1 hkn hrest (Or.inl hp.2.2.2.2.2) hnn kk
theorem wx_V2 {ci k : Nat} {a1 a2 : Value} (hd : decode M.2.1 pc = .ok (.invokevirtual idx, 3)) (hp : zPV M' 2 ci) (hlink : Cond.methodLink M.1.cls idx M'.1 ∈ zT) (hk : (zK k).1 = ci) (hkn : k < σ.1) (hrest : (rest.map fun v => v.category).sum ≤ 8) (hnn : σ.1 ≤ M.2.2.2.2.2 ∨ M.2.2.2.2.2 = 0) (kk : wm d M' [.ref k, a1, a2] σ (fun r σ' => wx (d + 1) M (pc + 3) L (r ++ rest) σ' K)) : wx (d + 1) M pc L (a2 :: a1 :: .ref k :: rest) σ K :=
  wx_callV (av := [a1, a2]) hd hp.1 hp.2.1 hlink hp.2.2.1 rfl hk hp.2.2.2.1 hp.2.2.2.2.1 hkn hrest (Or.inl hp.2.2.2.2.2) hnn kk
theorem wx_V3 {ci k : Nat} {a1 a2 a3 : Value} (hd : decode M.2.1 pc = .ok (.invokevirtual idx, 3)) (hp : zPV M' 3 ci) (hlink : Cond.methodLink M.1.cls idx M'.1 ∈ zT) (hk : (zK k).1 = ci) (hkn : k < σ.1) (hrest : (rest.map fun v => v.category).sum ≤ 8) (hnn : σ.1 ≤ M.2.2.2.2.2 ∨ M.2.2.2.2.2 = 0) (kk : wm d M' [.ref k, a1, a2, a3] σ (fun r σ' => wx (d + 1) M (pc + 3) L (r ++ rest) σ' K)) : wx (d + 1) M pc L (a3 :: a2 :: a1 :: .ref k :: rest) σ K :=
  wx_callV (av := [a1, a2, a3]) hd hp.1 hp.2.1 hlink hp.2.2.1 rfl hk hp.2.2.2.1 hp.2.2.2.2.1 hkn hrest (Or.inl hp.2.2.2.2.2) hnn kk
theorem wx_V4 {ci k : Nat} {a1 a2 a3 a4 : Value} (hd : decode M.2.1 pc = .ok (.invokevirtual idx, 3)) (hp : zPV M' 4 ci) (hlink : Cond.methodLink M.1.cls idx M'.1 ∈ zT) (hk : (zK k).1 = ci) (hkn : k < σ.1) (hrest : (rest.map fun v => v.category).sum ≤ 8) (hnn : σ.1 ≤ M.2.2.2.2.2 ∨ M.2.2.2.2.2 = 0) (kk : wm d M' [.ref k, a1, a2, a3, a4] σ (fun r σ' => wx (d + 1) M (pc + 3) L (r ++ rest) σ' K)) : wx (d + 1) M pc L (a4 :: a3 :: a2 :: a1 :: .ref k :: rest) σ K :=
  wx_callV (av := [a1, a2, a3, a4]) hd hp.1 hp.2.1 hlink hp.2.2.1 rfl hk hp.2.2.2.1 hp.2.2.2.2.1 hkn hrest (Or.inl hp.2.2.2.2.2) hnn kk
theorem wx_V5 {ci k : Nat} {a1 a2 a3 a4 a5 : Value} (hd : decode M.2.1 pc = .ok (.invokevirtual idx, 3)) (hp : zPV M' 5 ci) (hlink : Cond.methodLink M.1.cls idx M'.1 ∈ zT) (hk : (zK k).1 = ci) (hkn : k < σ.1) (hrest : (rest.map fun v => v.category).sum ≤ 8) (hnn : σ.1 ≤ M.2.2.2.2.2 ∨ M.2.2.2.2.2 = 0) (kk : wm d M' [.ref k, a1, a2, a3, a4, a5] σ (fun r σ' => wx (d + 1) M (pc + 3) L (r ++ rest) σ' K)) : wx (d + 1) M pc L (a5 :: a4 :: a3 :: a2 :: a1 :: .ref k :: rest) σ K :=
  wx_callV (av := [a1, a2, a3, a4, a5]) hd hp.1 hp.2.1 hlink hp.2.2.1 rfl hk hp.2.2.2.1 hp.2.2.2.2.1 hkn hrest (Or.inl hp.2.2.2.2.2) hnn kk
theorem wx_S1 {a1 : Value} (hd : decode M.2.1 pc = .ok (.invokestatic idx, 3)) (hp : zPS M' 1) (hlink : Cond.methodLink M.1.cls idx M'.1 ∈ zT) (hrest : (rest.map fun v => v.category).sum ≤ 8) (hnn : σ.1 ≤ M.2.2.2.2.2 ∨ M.2.2.2.2.2 = 0) (kk : wm d M' [a1] σ (fun r σ' => wx (d + 1) M (pc + 3) L (r ++ rest) σ' K)) : wx (d + 1) M pc L (a1 :: rest) σ K :=
  wx_callS (av := [a1]) hd hp.1 hp.2.1 hlink hp.2.2.1 rfl hrest (Or.inl hp.2.2.2) hnn kk
theorem wx_S2 {a1 a2 : Value} (hd : decode M.2.1 pc = .ok (.invokestatic idx, 3)) (hp : zPS M' 2) (hlink : Cond.methodLink M.1.cls idx M'.1 ∈ zT) (hrest : (rest.map fun v => v.category).sum ≤ 8) (hnn : σ.1 ≤ M.2.2.2.2.2 ∨ M.2.2.2.2.2 = 0) (kk : wm d M' [a1, a2] σ (fun r σ' => wx (d + 1) M (pc + 3) L (r ++ rest) σ' K)) : wx (d + 1) M pc L (a2 :: a1 :: rest) σ K :=
  wx_callS (av := [a1, a2]) hd hp.1 hp.2.1 hlink hp.2.2.1 rfl hrest (Or.inl hp.2.2.2) hnn kk
theorem wx_S3 {a1 a2 a3 : Value} (hd : decode M.2.1 pc = .ok (.invokestatic idx, 3)) (hp : zPS M' 3) (hlink : Cond.methodLink M.1.cls idx M'.1 ∈ zT) (hrest : (rest.map fun v => v.category).sum ≤ 8) (hnn : σ.1 ≤ M.2.2.2.2.2 ∨ M.2.2.2.2.2 = 0) (kk : wm d M' [a1, a2, a3] σ (fun r σ' => wx (d + 1) M (pc + 3) L (r ++ rest) σ' K)) : wx (d + 1) M pc L (a3 :: a2 :: a1 :: rest) σ K :=
  wx_callS (av := [a1, a2, a3]) hd hp.1 hp.2.1 hlink hp.2.2.1 rfl hrest (Or.inl hp.2.2.2) hnn kk
theorem wx_SN3 {host : String} {a1 a2 a3 : Value} (hd : decode M.2.1 pc = .ok (.invokestatic idx, 3)) (hp : zPS M' 3) (hlink : Cond.methodLinkNest M.1.cls idx M'.1 host ∈ zNest) (hrest : (rest.map fun v => v.category).sum ≤ 8) (hnn : σ.1 ≤ M.2.2.2.2.2 ∨ M.2.2.2.2.2 = 0) (kk : wm d M' [a1, a2, a3] σ (fun r σ' => wx (d + 1) M (pc + 3) L (r ++ rest) σ' K)) : wx (d + 1) M pc L (a3 :: a2 :: a1 :: rest) σ K :=
  wx_callSN (av := [a1, a2, a3]) hd hp.1 hp.2.1 hlink hp.2.2.1 rfl hrest (Or.inl hp.2.2.2) hnn kk
theorem wx_S4 {a1 a2 a3 a4 : Value} (hd : decode M.2.1 pc = .ok (.invokestatic idx, 3)) (hp : zPS M' 4) (hlink : Cond.methodLink M.1.cls idx M'.1 ∈ zT) (hrest : (rest.map fun v => v.category).sum ≤ 8) (hnn : σ.1 ≤ M.2.2.2.2.2 ∨ M.2.2.2.2.2 = 0) (kk : wm d M' [a1, a2, a3, a4] σ (fun r σ' => wx (d + 1) M (pc + 3) L (r ++ rest) σ' K)) : wx (d + 1) M pc L (a4 :: a3 :: a2 :: a1 :: rest) σ K :=
  wx_callS (av := [a1, a2, a3, a4]) hd hp.1 hp.2.1 hlink hp.2.2.1 rfl hrest (Or.inl hp.2.2.2) hnn kk
theorem wx_I0 {k : Nat} (hd : decode M.2.1 pc = .ok (.invokespecial idx, 3)) (hm : zCm M') (hi : Cond.instanceMethod M'.1 ∈ zT) (hlink : Cond.methodLink M.1.cls idx M'.1 ∈ zT) (hnp : zNp M' 0) (hin : M'.1.name = "<init>") (hvo : M'.2.2.2.1 = none) (hrest : (rest.map fun v => v.category).sum ≤ 8) (hrm : zRoom M M' σ.1) (hnn : σ.1 ≤ M.2.2.2.2.2 ∨ M.2.2.2.2.2 = 0) (kk : wm d M' [.ref k] σ (fun r σ' => wx (d + 1) M (pc + 3) L (r ++ rest) σ' K)) : wx (d + 1) M pc L (.ref k :: rest) σ K :=
  wx_callI (av := []) hd hm hi hlink hnp hin hvo rfl hrest hrm hnn kk
theorem wx_IN0 {k : Nat} {host : String} (hd : decode M.2.1 pc = .ok (.invokespecial idx, 3)) (hm : zCm M') (hi : Cond.instanceMethod M'.1 ∈ zT) (hlink : Cond.methodLinkNest M.1.cls idx M'.1 host ∈ zNest) (hnp : zNp M' 0) (hin : M'.1.name = "<init>") (hvo : M'.2.2.2.1 = none) (hrest : (rest.map fun v => v.category).sum ≤ 8) (hrm : zRoom M M' σ.1) (hnn : σ.1 ≤ M.2.2.2.2.2 ∨ M.2.2.2.2.2 = 0) (kk : wm d M' [.ref k] σ (fun r σ' => wx (d + 1) M (pc + 3) L (r ++ rest) σ' K)) : wx (d + 1) M pc L (.ref k :: rest) σ K :=
  wx_callIN (av := []) hd hm hi hlink hnp hin hvo rfl hrest hrm hnn kk
theorem wx_I1 {k : Nat} {a1 : Value} (hd : decode M.2.1 pc = .ok (.invokespecial idx, 3)) (hm : zCm M') (hi : Cond.instanceMethod M'.1 ∈ zT) (hlink : Cond.methodLink M.1.cls idx M'.1 ∈ zT) (hnp : zNp M' 1) (hin : M'.1.name = "<init>") (hvo : M'.2.2.2.1 = none) (hrest : (rest.map fun v => v.category).sum ≤ 8) (hrm : zRoom M M' σ.1) (hnn : σ.1 ≤ M.2.2.2.2.2 ∨ M.2.2.2.2.2 = 0) (kk : wm d M' [.ref k, a1] σ (fun r σ' => wx (d + 1) M (pc + 3) L (r ++ rest) σ' K)) : wx (d + 1) M pc L (a1 :: .ref k :: rest) σ K :=
  wx_callI (av := [a1]) hd hm hi hlink hnp hin hvo rfl hrest hrm hnn kk
theorem wx_IN1 {k : Nat} {host : String} {a1 : Value} (hd : decode M.2.1 pc = .ok (.invokespecial idx, 3)) (hm : zCm M') (hi : Cond.instanceMethod M'.1 ∈ zT) (hlink : Cond.methodLinkNest M.1.cls idx M'.1 host ∈ zNest) (hnp : zNp M' 1) (hin : M'.1.name = "<init>") (hvo : M'.2.2.2.1 = none) (hrest : (rest.map fun v => v.category).sum ≤ 8) (hrm : zRoom M M' σ.1) (hnn : σ.1 ≤ M.2.2.2.2.2 ∨ M.2.2.2.2.2 = 0) (kk : wm d M' [.ref k, a1] σ (fun r σ' => wx (d + 1) M (pc + 3) L (r ++ rest) σ' K)) : wx (d + 1) M pc L (a1 :: .ref k :: rest) σ K :=
  wx_callIN (av := [a1]) hd hm hi hlink hnp hin hvo rfl hrest hrm hnn kk
end ZAR
