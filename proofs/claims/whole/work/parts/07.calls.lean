/-! calls, a method's contract, making cells -/
def zCm (M' : zMt) : Prop := Cond.code M'.1 M'.2.1 M'.2.2.1 M'.2.2.2.1 ∈ zT ∧ Cond.initialized M'.1.cls ∈ zT ∧ (M'.1.cls ≠ "java/lang/invoke/MethodHandle" ∧ M'.1.cls ≠ "java/lang/invoke/VarHandle") ∧ M'.2.2.1 ≤ 21 ∧ plainFor M'.1 = true
def zNp (M' : zMt) (n : Nat) : Prop := (parseMethodDescriptor M'.1.desc).map (fun d => d.parameters.length) = some n
def zIV (M' : zMt) : Prop := Cond.instanceMethod M'.1 ∈ zT ∧ Cond.selects M'.1.cls M'.1 M'.1 ∈ zT
theorem zCat {X : zX} {rest : List Value} : ((rest.map (zV X)).map fun v => v.category).sum = (rest.map fun v => v.category).sum := by
  rw [List.map_map]
  exact congrArg List.sum (List.map_congr_left (fun v _ => zV_cat))
theorem zMet_back {X : zX} {p : Program} {l : Launch} {e : Env} {R : Room} {s : State} {m : MethodId} {args : Array Value} {below : List Frame} {meth : Method} {c : Code} {Q : State → Prop} {H : Heap} {locs : List Loc} {cells slots mc ms pc n : Nat} {ls : Array Slot} {rest : List Value} {st0 : List Value} {M' : zMt} {K' : List Value → zS → Prop} {a : Array Value}
    (hr : va_Run p l e R s m args below meth c H locs cells slots mc ms (F0 m pc ls st0) rest (zQc X M' n K' a) (zAp X)) (hS : va_S (zAp X) s.heap H locs)
    (kk : ∀ (r : List Value) (σ' : zS) (H1 : Heap) (locs1 : List Loc), K' r σ' → zEnd M' n σ' → zWX X s σ' H1 → va_S (zAp X) s.heap H1 locs1 → W p l e R s m args below meth c H1 locs1 (cells + mc) (slots + ms) Q (F0 m (pc + 3) ls (r.map (zV X) ++ rest))) : W p l e R s m args below meth c H locs cells slots Q (F0 m pc ls st0) := by
  intro T hT X0
  obtain ⟨v, st₀, t, T', L, h0, X', hL, e1, e2, ⟨r, σ', hK', hEnd, hlen, hoc, hWX, hz, hk⟩, st⟩ := hr T hT X0
  rw [h0] at hz hk
  have hvm : s.vm.Alike t.vm := by rw [← e2]; exact X'.warmed.alike
  have hv : v.toList = r.map (zV X) := by
    cases hoc
    match r, hlen with
    | [], _ => rfl
    | [x], _ => rfl
  have hWX' : zWX X s σ' T'.heap := by rw [e1]; exact zWX_moved (hvm.symm) hWX
  obtain ⟨t2, a1, b1⟩ := kk r σ' T'.heap (locs ++ L) hK' hEnd hWX'
    ⟨Nat.le_trans hS.1 (by rw [e1]; exact hz), fun q h1 h2 => by rw [e1, hk q (Nat.lt_of_lt_of_le h1 hS.1) h2]; exact hS.2.1 q h1 h2, fun q hq => by
      rcases List.mem_append.mp hq with h | h
      · exact hS.2.2 q h
      · exact hL q h⟩ T' rfl X'
  refine ⟨t2, ?_, b1⟩
  rw [← hv] at a1
  exact st t2 a1
theorem zPc_blind {X : zX} {av : List Value} {σ : zS} : FrameBlind (zPc X av σ) := by
  intro a U g mk q
  obtain ⟨q0, q1, q2, q3⟩ := q
  exact ⟨q0, zWX_moved (s := U) (t := U.calling g mk a) (Vm.Alike.refl U.vm) q1, va_K.moved (u := U) (U := U.calling g mk a) (Vm.Alike.refl U.vm) q2, zNw_same (s := U) (U := U.calling g mk a) rfl q3⟩
theorem zPc_at {X : zX} {av : List Value} {σ : zS} {s : State} {H : Heap} (hW : zWX X s σ H) (hK : va_K X.2.2.1 vwCl (zTy X) s) (hN : zNw s) : ∀ U : State, U.heap = H → s.WarmedH U.vm → zPc X av σ (av.map (zV X)).toArray U := by
  intro U hU hw
  exact ⟨rfl, by rw [hU]; exact zWX_moved hw.alike hW, va_K.moved hw.alike hK, zNw_warm hw hN⟩
theorem zWd_code {M : zMt} : Cond.code M.1 M.2.1 M.2.2.1 M.2.2.2.1 ∈ zWd M := List.mem_cons_self
section ZCA
variable {d : Nat} {M M' : zMt} {pc idx : Nat} {L : List (Option Value)} {rest av : List Value} {σ : zS} {K : List Value → zS → Prop}
/-- the room of a caller for a callee: no new cells, or a made part of the caller's own -/
def zRoom (M M' : zMt) (n : Nat) : Prop := M'.2.2.2.2.2 = 0 ∨ (M.2.2.2.2.2 ≠ 0 ∧ M'.2.2.2.2.2 ≠ 0 ∧ n = M'.2.2.2.2.1 ∧ M.2.2.2.2.1 ≤ M'.2.2.2.2.1 ∧ M'.2.2.2.2.1 ≤ M'.2.2.2.2.2 ∧ M'.2.2.2.2.2 ≤ M.2.2.2.2.2)
theorem zRoom_cells {M M' : zMt} {R : Room} {n : Nat} (h : zRoom M M' n) (h1 : zcc M M.2.2.2.2.2 ≤ R.cells) (h2 : zss M M.2.2.2.2.2 ≤ R.slots) (hn : n ≤ M.2.2.2.2.2 ∨ M.2.2.2.2.2 = 0) : zcc M n + zcc M' M'.2.2.2.2.2 ≤ R.cells ∧ zss M n + zss M' M'.2.2.2.2.2 ≤ R.slots := by
  unfold zcc zss at *
  rcases h with h | ⟨a1, a2, a3, a4, a5, a6⟩
  · rw [if_pos h, if_pos h]
    by_cases hm : M.2.2.2.2.2 = 0
    · rw [if_pos hm, if_pos hm]; omega
    · rw [if_neg hm] at h1 h2 ⊢
      rw [if_neg hm]
      have := zSum_mono (hn.resolve_right hm)
      have := hn.resolve_right hm
      omega
  · rw [if_neg a1] at h1 h2 ⊢
    rw [if_neg a1, if_neg a2, if_neg a2]
    subst a3
    have s1 := zSum_mono a4
    have s2 := zSum_mono a5
    have s3 := zSum_mono a6
    omega
theorem zRoom_end {M M' : zMt} {n : Nat} {σ' : zS} (h : zRoom M M' n) (he : zEnd M' n σ') : zcc M n + zcc M' M'.2.2.2.2.2 = zcc M σ'.1 ∧ zss M n + zss M' M'.2.2.2.2.2 = zss M σ'.1 ∧ (M.2.2.2.2.2 = 0 → σ'.1 = n) ∧ (σ'.1 = n ∨ σ'.1 ≤ M.2.2.2.2.2) := by
  unfold zcc zss zEnd at *
  rcases h with h | ⟨a1, a2, a3, a4, a5, a6⟩
  · rw [if_pos h] at he
    rw [if_pos h, if_pos h, he]
    exact ⟨rfl, rfl, fun _ => rfl, Or.inl rfl⟩
  · rw [if_neg a2] at he
    rw [if_neg a1, if_neg a1, if_neg a1, if_neg a1, if_neg a2, if_neg a2, he]
    subst a3
    have s1 := zSum_mono a4
    have s2 := zSum_mono a5
    exact ⟨by omega, by omega, fun h => absurd h a1, Or.inr a6⟩
theorem wx_callV {ci k n : Nat} (hd : decode M.2.1 pc = .ok (.invokevirtual idx, 3)) (hm : zCm M') (hi : zIV M') (hlink : Cond.methodLink M.1.cls idx M'.1 ∈ zT) (hnp : zNp M' n) (hn0 : av.length = n) (hk : (zK k).1 = ci) (hci : ci < 10) (hcl : vwCl[ci]?.map (fun q => q.1) = some M'.1.cls) (hkn : k < σ.1) (hrest : (rest.map fun v => v.category).sum ≤ 8) (hrm : zRoom M M' σ.1) (hnn : σ.1 ≤ M.2.2.2.2.2 ∨ M.2.2.2.2.2 = 0)
    (kk : wm d M' (.ref k :: av) σ (fun r σ' => wx (d + 1) M (pc + 3) L (r ++ rest) σ' K)) : wx (d + 1) M pc L (av.reverse ++ .ref k :: rest) σ K := by
  intro X p l e R s m args below meth c Q nn hC hn hr H locs ls hW hS hl
  obtain ⟨hx, hb, hml, hown, hts, hret, hlk, hK, hNw, hnm, hdR, hlR, hcR, hsR⟩ := id hC
  obtain ⟨m1, m2, m3, m4, m5⟩ := hm
  obtain ⟨q, hq⟩ : ∃ q, vwCl[ci]? = some q := by
    cases h : vwCl[ci]? with
    | none => rw [h] at hcl; cases hcl
    | some q => exact ⟨q, rfl⟩
  have hqn : q.1 = M'.1.cls := by rw [hq] at hcl; exact Option.some.inj hcl
  have he : (zWs X σ)[k]? = some (X.2.1 + k, .inr (ci, zFs X σ.2.1 σ.2.2 ci k)) := by rw [zWs_get hkn, zE_obj hk hci]
  have hrecv := va_recv hK hW.2.2.2.1 hq he
  rw [hqn] at hrecv
  have cb : CallW R s args M.1.cls M'.1.cls idx M'.1 M'.2.1 M'.2.2.1 M'.2.2.2.1 (zWd M') (zRm d M') (zcc M' M'.2.2.2.2.2) (zss M' M'.2.2.2.2.2) n :=
    ⟨⟨rfl, rfl, hdR, by show 8 + (M'.2.2.1 + 11) + 40 * d ≤ R.locals; omega, zT_pay hts m1, zWd_code, hts _ m1, hts _ m2, m3, fun sig h => by rw [zNp, h] at hnp; exact (Option.some.inj hnp).symm, hts _ hlink⟩, hts _ hi.1, hts _ hi.2⟩
  have hrun := va_runV (cells := zcc M σ.1) (slots := zss M σ.1) (locs := locs) (l := l) (e := e) (below := below) (meth := meth) (As := av.map (zV X)) (rest := rest.map (zV X)) (g := F0 m pc ls ((av.reverse ++ .ref k :: rest).map (zV X))) (b := X.2.1 + k)
    ⟨hx, hb, hml, hown, hts⟩ (kk X l) cb ⟨zPc_blind, hrecv, zPc_at hW hK hNw⟩ rfl (by rw [List.length_map]; exact hn0) hl.1 (by simp [zV]) (lv_room (by rw [zCat]; exact hrest)) hd (zRoom_cells hrm hcR hsR hnn)
  refine zMet_back hrun hS fun r σ' H1 locs1 hK1 hEnd hW1 hS1 => ?_
  obtain ⟨g1, g2, g3, -⟩ := zRoom_end hrm hEnd
  have := hK1 X p l e R s m args below meth c Q nn hC (fun q => (g3 q).trans (hn q)) hr H1 locs1 ls hW1 hS1 hl
  rw [g1, g2]
  rw [List.map_append] at this
  exact this
theorem wx_callS {n : Nat} (hd : decode M.2.1 pc = .ok (.invokestatic idx, 3)) (hm : zCm M') (hi : Cond.static M'.1 ∈ zT) (hlink : Cond.methodLink M.1.cls idx M'.1 ∈ zT) (hnp : zNp M' n) (hn0 : av.length = n) (hrest : (rest.map fun v => v.category).sum ≤ 8) (hrm : zRoom M M' σ.1) (hnn : σ.1 ≤ M.2.2.2.2.2 ∨ M.2.2.2.2.2 = 0)
    (kk : wm d M' av σ (fun r σ' => wx (d + 1) M (pc + 3) L (r ++ rest) σ' K)) : wx (d + 1) M pc L (av.reverse ++ rest) σ K := by
  intro X p l e R s m args below meth c Q nn hC hn hr H locs ls hW hS hl
  obtain ⟨hx, hb, hml, hown, hts, hret, hlk, hK, hNw, hnm, hdR, hlR, hcR, hsR⟩ := id hC
  obtain ⟨m1, m2, m3, m4, m5⟩ := hm
  have cb : CallB R s args M.1.cls idx M'.1 M'.2.1 M'.2.2.1 M'.2.2.2.1 (zWd M') (zRm d M') (zcc M' M'.2.2.2.2.2) (zss M' M'.2.2.2.2.2) n ∧ (Cond.static M'.1).before args s = true :=
    ⟨⟨rfl, rfl, hdR, by show 8 + (M'.2.2.1 + 11) + 40 * d ≤ R.locals; omega, zT_pay hts m1, zWd_code, hts _ m1, hts _ m2, m3, fun sig h => by rw [zNp, h] at hnp; exact (Option.some.inj hnp).symm, hts _ hlink⟩, hts _ hi⟩
  have hrun := va_runS (cells := zcc M σ.1) (slots := zss M σ.1) (locs := locs) (l := l) (e := e) (below := below) (meth := meth) (As := av.map (zV X)) (rest := rest.map (zV X)) (g := F0 m pc ls ((av.reverse ++ rest).map (zV X)))
    ⟨hx, hb, hml, hown, hts⟩ (kk X l) cb ⟨zPc_blind, zPc_at hW hK hNw⟩ rfl (by rw [List.length_map]; exact hn0) hl.1 (by simp) (lv_room (by rw [zCat]; exact hrest)) hd (zRoom_cells hrm hcR hsR hnn)
  refine zMet_back hrun hS fun r σ' H1 locs1 hK1 hEnd hW1 hS1 => ?_
  obtain ⟨g1, g2, g3, -⟩ := zRoom_end hrm hEnd
  have := hK1 X p l e R s m args below meth c Q nn hC (fun q => (g3 q).trans (hn q)) hr H1 locs1 ls hW1 hS1 hl
  rw [g1, g2]
  rw [List.map_append] at this
  exact this
theorem wx_callSN {n : Nat} {host : String} (hd : decode M.2.1 pc = .ok (.invokestatic idx, 3)) (hm : zCm M') (hi : Cond.static M'.1 ∈ zT) (hlink : Cond.methodLinkNest M.1.cls idx M'.1 host ∈ zNest) (hnp : zNp M' n) (hn0 : av.length = n) (hrest : (rest.map fun v => v.category).sum ≤ 8) (hrm : zRoom M M' σ.1) (hnn : σ.1 ≤ M.2.2.2.2.2 ∨ M.2.2.2.2.2 = 0)
    (kk : wm d M' av σ (fun r σ' => wx (d + 1) M (pc + 3) L (r ++ rest) σ' K)) : wx (d + 1) M pc L (av.reverse ++ rest) σ K := by
  intro X p l e R s m args below meth c Q nn hC hn hr H locs ls hW hS hl
  obtain ⟨hx, hb, hml, hown, hts, hret, hlk, hK, hNw, hnm, hdR, hlR, hcR, hsR⟩ := id hC
  obtain ⟨m1, m2, m3, m4, m5⟩ := hm
  have cb : va_CN R s args M.1.cls idx M'.1 host M'.2.1 M'.2.2.1 M'.2.2.2.1 (zWd M') (zRm d M') (zcc M' M'.2.2.2.2.2) (zss M' M'.2.2.2.2.2) n ∧ (Cond.static M'.1).before args s = true ∧ True :=
    ⟨⟨⟨rfl, rfl, hdR, by show 8 + (M'.2.2.1 + 11) + 40 * d ≤ R.locals; omega, zT_pay hts m1, zWd_code⟩, hts _ m1, hts _ m2, m3, fun sig h => by rw [zNp, h] at hnp; exact (Option.some.inj hnp).symm, va_Nw.use rfl (hNw.1 _ hlink)⟩, hts _ hi, trivial⟩
  have hrun := va_runSN (cells := zcc M σ.1) (slots := zss M σ.1) (locs := locs) (l := l) (e := e) (below := below) (meth := meth) (As := av.map (zV X)) (rest := rest.map (zV X)) (g := F0 m pc ls ((av.reverse ++ rest).map (zV X)))
    ⟨hx, hb, hml, hown, hts⟩ (kk X l) cb ⟨zPc_blind, zPc_at hW hK hNw⟩ rfl (by rw [List.length_map]; exact hn0) hl.1 (by simp) (lv_room (by rw [zCat]; exact hrest)) hd (zRoom_cells hrm hcR hsR hnn)
  refine zMet_back hrun hS fun r σ' H1 locs1 hK1 hEnd hW1 hS1 => ?_
  obtain ⟨g1, g2, g3, -⟩ := zRoom_end hrm hEnd
  have := hK1 X p l e R s m args below meth c Q nn hC (fun q => (g3 q).trans (hn q)) hr H1 locs1 ls hW1 hS1 hl
  rw [g1, g2]
  rw [List.map_append] at this
  exact this
theorem wx_callI {n k : Nat} (hd : decode M.2.1 pc = .ok (.invokespecial idx, 3)) (hm : zCm M') (hi : Cond.instanceMethod M'.1 ∈ zT) (hlink : Cond.methodLink M.1.cls idx M'.1 ∈ zT) (hnp : zNp M' n) (hin : M'.1.name = "<init>") (hvo : M'.2.2.2.1 = none) (hn0 : av.length = n) (hrest : (rest.map fun v => v.category).sum ≤ 8) (hrm : zRoom M M' σ.1) (hnn : σ.1 ≤ M.2.2.2.2.2 ∨ M.2.2.2.2.2 = 0)
    (kk : wm d M' (.ref k :: av) σ (fun r σ' => wx (d + 1) M (pc + 3) L (r ++ rest) σ' K)) : wx (d + 1) M pc L (av.reverse ++ .ref k :: rest) σ K := by
  intro X p l e R s m args below meth c Q nn hC hn hr H locs ls hW hS hl
  obtain ⟨hx, hb, hml, hown, hts, hret, hlk, hK, hNw, hnm, hdR, hlR, hcR, hsR⟩ := id hC
  obtain ⟨m1, m2, m3, m4, m5⟩ := hm
  have cb : CallB R s args M.1.cls idx M'.1 M'.2.1 M'.2.2.1 none (zWd M') (zRm d M') (zcc M' M'.2.2.2.2.2) (zss M' M'.2.2.2.2.2) n ∧ M'.1.name = "<init>" ∧ (Cond.instanceMethod M'.1).before args s = true :=
    ⟨⟨rfl, rfl, hdR, by show 8 + (M'.2.2.1 + 11) + 40 * d ≤ R.locals; omega, zT_pay hts m1, by rw [← hvo]; exact zWd_code, by rw [← hvo]; exact hts _ m1, hts _ m2, m3, fun sig h => by rw [zNp, h] at hnp; exact (Option.some.inj hnp).symm, hts _ hlink⟩, hin, hts _ hi⟩
  have hrun := va_runI (cells := zcc M σ.1) (slots := zss M σ.1) (locs := locs) (l := l) (e := e) (below := below) (meth := meth) (As := av.map (zV X)) (rest := rest.map (zV X)) (g := F0 m pc ls ((av.reverse ++ .ref k :: rest).map (zV X))) (b := X.2.1 + k)
    ⟨hx, hb, hml, hown, hts⟩ (kk X l) cb ⟨zPc_blind, zPc_at hW hK hNw⟩ rfl (by rw [List.length_map]; exact hn0) hl.1 (by simp [zV]) (lv_room (by rw [zCat]; exact hrest)) hd (zRoom_cells hrm hcR hsR hnn)
  refine zMet_back hrun hS fun r σ' H1 locs1 hK1 hEnd hW1 hS1 => ?_
  obtain ⟨g1, g2, g3, -⟩ := zRoom_end hrm hEnd
  have := hK1 X p l e R s m args below meth c Q nn hC (fun q => (g3 q).trans (hn q)) hr H1 locs1 ls hW1 hS1 hl
  rw [g1, g2]
  rw [List.map_append] at this
  exact this
theorem wx_callIN {n k : Nat} {host : String} (hd : decode M.2.1 pc = .ok (.invokespecial idx, 3)) (hm : zCm M') (hi : Cond.instanceMethod M'.1 ∈ zT) (hlink : Cond.methodLinkNest M.1.cls idx M'.1 host ∈ zNest) (hnp : zNp M' n) (hin : M'.1.name = "<init>") (hvo : M'.2.2.2.1 = none) (hn0 : av.length = n) (hrest : (rest.map fun v => v.category).sum ≤ 8) (hrm : zRoom M M' σ.1) (hnn : σ.1 ≤ M.2.2.2.2.2 ∨ M.2.2.2.2.2 = 0)
    (kk : wm d M' (.ref k :: av) σ (fun r σ' => wx (d + 1) M (pc + 3) L (r ++ rest) σ' K)) : wx (d + 1) M pc L (av.reverse ++ .ref k :: rest) σ K := by
  intro X p l e R s m args below meth c Q nn hC hn hr H locs ls hW hS hl
  obtain ⟨hx, hb, hml, hown, hts, hret, hlk, hK, hNw, hnm, hdR, hlR, hcR, hsR⟩ := id hC
  obtain ⟨m1, m2, m3, m4, m5⟩ := hm
  have cb : va_CN R s args M.1.cls idx M'.1 host M'.2.1 M'.2.2.1 none (zWd M') (zRm d M') (zcc M' M'.2.2.2.2.2) (zss M' M'.2.2.2.2.2) n ∧ M'.1.name = "<init>" ∧ (Cond.instanceMethod M'.1).before args s = true :=
    ⟨⟨⟨rfl, rfl, hdR, by show 8 + (M'.2.2.1 + 11) + 40 * d ≤ R.locals; omega, zT_pay hts m1, by rw [← hvo]; exact zWd_code⟩, by rw [← hvo]; exact hts _ m1, hts _ m2, m3, fun sig h => by rw [zNp, h] at hnp; exact (Option.some.inj hnp).symm, va_Nw.use rfl (hNw.1 _ hlink)⟩, hin, hts _ hi⟩
  have hrun := va_runIN (cells := zcc M σ.1) (slots := zss M σ.1) (locs := locs) (l := l) (e := e) (below := below) (meth := meth) (As := av.map (zV X)) (rest := rest.map (zV X)) (g := F0 m pc ls ((av.reverse ++ .ref k :: rest).map (zV X))) (b := X.2.1 + k)
    ⟨hx, hb, hml, hown, hts⟩ (kk X l) cb ⟨zPc_blind, zPc_at hW hK hNw⟩ rfl (by rw [List.length_map]; exact hn0) hl.1 (by simp [zV]) (lv_room (by rw [zCat]; exact hrest)) hd (zRoom_cells hrm hcR hsR hnn)
  refine zMet_back hrun hS fun r σ' H1 locs1 hK1 hEnd hW1 hS1 => ?_
  obtain ⟨g1, g2, g3, -⟩ := zRoom_end hrm hEnd
  have := hK1 X p l e R s m args below meth c Q nn hC (fun q => (g3 q).trans (hn q)) hr H1 locs1 ls hW1 hS1 hl
  rw [g1, g2]
  rw [List.map_append] at this
  exact this
theorem wx_objInit {k : Nat} (hd : decode M.2.1 pc = .ok (.invokespecial idx, 3)) (h1 : Cond.methodLink M.1.cls idx objectInit ∈ zT) (h2 : Cond.instanceMethod objectInit ∈ zT) (h3 : Cond.code objectInit ⟨#[0xb1]⟩ 1 none ∈ zT) (hrest : (rest.map fun v => v.category).sum ≤ 8) (kk : wx (d + 1) M (pc + 3) L rest σ K) : wx (d + 1) M pc L (.ref k :: rest) σ K := by
  intro X p l e R s m args below meth c Q nn hC hn hr H locs ls hW hS hl
  obtain ⟨hx, hb, hml, hown, hts, hret, hlk, hK, hNw, hnm, hdR, hlR, hcR, hsR⟩ := id hC
  have hcs : ((rest.map (zV X)).map fun v => v.category).sum ≤ 8 := by rw [zCat]; exact hrest
  exact W.objInit hx hb hown (hts _ h1) (hts _ h2) (hts _ h3) rfl (by rw [hml]; exact hl.1) rfl hd (by omega) (by show 2 * 0 + ((rest.map (zV X)).map fun v => v.category).sum + 12 ≤ R.locals; omega) (kk X p l e R s m args below meth c Q nn hC hn hr H locs ls hW hS hl)
theorem zMet_ofW {l : Launch} {y : MethodName} {ws ws' : List Cond} {rm : Room} {Pc : Array Value → State → Prop} {Qc : Array Value → State → Outcome → State → Prop} {mc ms : Nat} {free : Addr → Prop} {cc : ByteArray} {maxL : Nat} {ret : Option FieldType}
    (hy : plainFor y = true) (hw : ws = Cond.code y cc maxL ret :: ws')
    (body : ∀ p e s m args below meth c s₁, BodyLoose p l y (headSpec ws rm) cc maxL ret e s m args below meth c s₁ → c.maxLocals = maxL → Pc args s →
      W p l e (headSpec ws rm).room s m args below meth c s.heap [] 0 0 (MQ below Qc args s mc ms free) (entryFrame m args maxL)) : Met l y ws rm Pc Qc mc ms free := by
  refine MetFree.of_bodyRF (code := cc) (maxLocals := maxL) (ret := ret) hy ?_ ?_
  · intro args s m h hn
    obtain ⟨meth, c, h1, h2, h3, h4, h5, h6, -, -⟩ := Cond.code_spec hn (atoms_spec (ws := ws) h _ (by rw [hw]; exact List.mem_cons_self))
    exact ⟨meth, c, h1, h2, h3, h4, h5, h6⟩
  · intro p e s m args below meth c s₁ B hml hP _ hst
    have hh0 : s₁.heap = s.heap := by rw [B.state]; rfl
    obtain ⟨t, a1, o, b1, b2, b3⟩ := body p e s m args below meth c s₁ B hml hP s₁ hh0 (Stand.of_body B)
    exact ⟨t, o, hst.trans a1, b1, b2, ⟨b3.1, b3.2⟩⟩
/-- a method's contract out of its walk -/
theorem wm_of {nL : Nat} {L0 : List (Option Value)} (hm : zCm M) (hz : M.2.2.2.2.2 = 0 ∨ σ.1 = M.2.2.2.2.1) (hlen : (zArgs av).length ≤ M.2.2.1) (hL : zArgs av ++ List.replicate (M.2.2.1 - (zArgs av).length) none = L0) (h : wx d M 0 L0 [] σ K) : wm d M av σ K := by
  intro X l
  obtain ⟨m1, m2, m3, m4, m5⟩ := hm
  refine zMet_ofW (cc := M.2.1) (maxL := M.2.2.1) (ret := M.2.2.2.1) m5 rfl ?_
  intro p e s m args below meth c s₁ B hml hv
  obtain ⟨rfl, hW, hK, hN⟩ := hv
  have hts0 := atoms_spec (ws := zWd M) B.pre
  have hC : zC X d M p (headSpec (zWd M) (zRm d M)).room s m (av.map (zV X)).toArray meth c :=
    ⟨B.exec, B.bytes, hml, findClass_of_methodNamed B.named, fun w hw => hts0 w (List.mem_cons_of_mem _ hw), B.returns, B.notSynchronized, hK, hN, fun _ => (name_of_methodNamed B.named B.method).1, Nat.le_refl _, Nat.le_refl _, Nat.le_refl _, Nat.le_refl _⟩
  rw [lg_entry_eq]
  have hl := zL_entry (X := X) hlen
  rw [hL] at hl
  have key := h X p l e (headSpec (zWd M) (zRm d M)).room s m (av.map (zV X)).toArray below meth c (MQ below (zQc X M σ.1 K) (av.map (zV X)).toArray s (zcc M M.2.2.2.2.2) (zss M M.2.2.2.2.2) (zAp X)) σ.1 hC (fun _ => rfl) ?_ s.heap [] _ hW va_S.rf hl
  · have e0 : zcc M σ.1 = 0 ∧ zss M σ.1 = 0 := by
      unfold zcc zss
      rcases hz with hz | hz
      · rw [if_pos hz, if_pos hz]; exact ⟨rfl, rfl⟩
      · by_cases q : M.2.2.2.2.2 = 0
        · rw [if_pos q, if_pos q]; exact ⟨rfl, rfl⟩
        · rw [if_neg q, if_neg q, hz, Nat.sub_self, Nat.sub_self]; exact ⟨rfl, rfl⟩
    rw [e0.1, e0.2] at key
    exact key
  · intro r σ' H' locs' pc' ls' hK' hEnd hW' hS' hret
    have e1 : zcc M σ'.1 = zcc M M.2.2.2.2.2 ∧ zss M σ'.1 = zss M M.2.2.2.2.2 := by
      unfold zcc zss
      unfold zEnd at hEnd
      by_cases q : M.2.2.2.2.2 = 0
      · rw [if_pos q, if_pos q, if_pos q, if_pos q]; exact ⟨rfl, rfl⟩
      · rw [if_neg q] at hEnd; rw [if_neg q, if_neg q, if_neg q, if_neg q, hEnd]; exact ⟨rfl, rfl⟩
    rw [e1.1, e1.2]
    have hq : ∀ t : State, t.heap = H' → s.WarmedH t.vm → ∀ o : Option Value, o = (r.map (zV X)).head? → r.length ≤ 1 → zQc X M σ.1 K (av.map (zV X)).toArray s (.returned o) t := fun t ht hw o ho hlen1 =>
      ⟨r, σ', hK', hEnd, hlen1, by rw [ho], by rw [ht]; exact zWX_moved hw.alike hW', hS'.F ht⟩
    match r, hret, hq with
    | [], hret, hq => exact W.vret B.exec B.bytes (B.returns.trans hret.2) (fun t ht hw => hq t ht hw none rfl (by simp)) hS'.2.2 hret.1 B.notSynchronized
    | [.int v], hret, hq =>
      obtain ⟨h1, ty, h2, h3⟩ := hret
      exact W.zret (ty := ty) B.exec B.bytes (B.returns.trans h2) h3 (fun t ht hw => hq t ht hw (some (.int v)) rfl (by simp)) hS'.2.2 h1 B.notSynchronized
    | [.long v], hret, hq => exact W.lret B.exec B.bytes (B.returns.trans hret.2) (fun t ht hw => hq t ht hw (some (.long v)) rfl (by simp)) hS'.2.2 hret.1 B.notSynchronized
end ZCA
