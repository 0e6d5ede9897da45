/-! the law: its rows -/
theorem zMet_backS {X : zX} {p : Program} {l : Launch} {e : Env} {R : Room} {s : State} {m : MethodId} {args : Array Value} {below : List Frame} {meth : Method} {c : Code} {Q : State → Prop} {H : Heap} {locs : List Loc} {cells slots mc ms pc n : Nat} {ls : Array Slot} {rest : List Value} {st0 : List Value} {M' : zMt} {K' : List Value → zS → Prop} {a : Array Value}
    (hr : va_Run p l e R s m args below meth c H locs cells slots mc ms (F0 m pc ls st0) rest (zQc X M' n K' a) (zAp X)) (hS : va_S (zAp X) s.heap H locs)
    (kk : ∀ (r : List Value) (σ' : zS) (H1 : Heap) (locs1 : List Loc), K' r σ' → zEnd M' n σ' → zWX X s σ' H1 → (∀ q : Nat, q < H.size → ¬ zAp X q → H1[q]? = H[q]?) → va_S (zAp X) s.heap H1 locs1 → W p l e R s m args below meth c H1 locs1 (cells + mc) (slots + ms) Q (F0 m (pc + 3) ls (r.map (zV X) ++ rest))) : W p l e R s m args below meth c H locs cells slots Q (F0 m pc ls st0) := by
  intro T hT X0
  obtain ⟨v, st₀, t, T', L, h0, X', hL, e1, e2, ⟨r, σ', hK', hEnd, hlen, hoc, hWX, hz, hk⟩, st⟩ := hr T hT X0
  rw [h0] at hz hk
  have hvm : s.vm.Alike t.vm := by rw [← e2]; exact X'.warmed.alike
  have hv : v.toList = r.map (zV X) := by
    cases hoc
    match r, hlen with
    | [], _ => rfl
    | [x], _ => rfl
  have hWX' : zWX X s σ' T'.heap := by rw [e1]; exact zWX_moved (hvm.symm) hWX
  obtain ⟨t2, a1, b1⟩ := kk r σ' T'.heap (locs ++ L) hK' hEnd hWX' (fun q h1 h2 => by rw [e1]; exact hk q h1 h2)
    ⟨Nat.le_trans hS.1 (by rw [e1]; exact hz), fun q h1 h2 => by rw [e1, hk q (Nat.lt_of_lt_of_le h1 hS.1) h2]; exact hS.2.1 q h1 h2, fun q hq => by
      rcases List.mem_append.mp hq with h | h
      · exact hS.2.2 q h
      · exact hL q h⟩ T' rfl X'
  refine ⟨t2, ?_, b1⟩
  rw [← hv] at a1
  exact st t2 a1
/-- the script is the same -/
def zSm (σ σ2 : zS) : Prop := (σ2.2.2 155 0).toNatClampNeg = (σ.2.2 155 0).toNatClampNeg ∧ ∀ j, j < (σ.2.2 155 0).toNatClampNeg → σ2.2.2 154 j = σ.2.2 154 j
theorem zSm_of {X : zX} {s s2 : State} {σ σ2 : zS} {H H1 : Heap} (hW : zWX X s σ H) (hW1 : zWX X s2 σ2 H1) (hq : ∀ q : Nat, q < H.size → ¬ zAp X q → H1[q]? = H[q]?) : zSm σ σ2 := by
  obtain ⟨w1, w2, w3, w4, scr, a1, a2, a3, a4, a5⟩ := hW
  obtain ⟨v1, v2, v3, v4, scr2, b1, b2, b3, b4, b5⟩ := hW1
  rw [hq X.1 (by rw [w1]; omega) (fun (z : X.2.1 ≤ X.1) => by omega), a1] at b1
  have e := Option.some.inj b1
  subst e
  have e2 : (σ2.2.2 155 0).toNatClampNeg = (σ.2.2 155 0).toNatClampNeg := b4.symm.trans a4
  refine ⟨e2, fun j hj => ?_⟩
  have h1 := a5 j hj
  rw [b5 j (by rw [e2]; exact hj)] at h1
  exact Value.int.inj (Option.some.inj h1)
section ZCL
variable {d : Nat} {M M' : zMt} {pc idx : Nat} {L : List (Option Value)} {rest av : List Value} {σ : zS} {K : List Value → zS → Prop}
theorem wx_callVS {ci k n : Nat} (hd : decode M.2.1 pc = .ok (.invokevirtual idx, 3)) (hm : zCm M') (hi : zIV M') (hlink : Cond.methodLink M.1.cls idx M'.1 ∈ zT) (hnp : zNp M' n) (hn0 : av.length = n) (hk : (zK k).1 = ci) (hci : ci < 10) (hcl : vwCl[ci]?.map (fun q => q.1) = some M'.1.cls) (hkn : k < σ.1) (hrest : (rest.map fun v => v.category).sum ≤ 8) (hrm : zRoom M M' σ.1) (hnn : σ.1 ≤ M.2.2.2.2.2 ∨ M.2.2.2.2.2 = 0)
    (kk : wm d M' (.ref k :: av) σ (fun r σ' => zSm σ σ' → wx (d + 1) M (pc + 3) L (r ++ rest) σ' K)) : wx (d + 1) M pc L (av.reverse ++ .ref k :: rest) σ K := by
  intro X p l e R s m args below meth c Q nn hC hn hr H locs ls hW hS hl
  obtain ⟨hx, hb, hml, hown, hts, hret, hlk, hK, hNw, hnm, hdR, hlR, hcR, hsR⟩ := id hC
  obtain ⟨m1, m2, m3, m4, m5⟩ := hm
  obtain ⟨q, hq⟩ : ∃ q, vwCl[ci]? = some q := by
    cases h : vwCl[ci]? with
    | none => rw [h] at hcl; cases hcl
    | some q => exact ⟨q, rfl⟩
  have hqn : q.1 = M'.1.cls := by rw [hq] at hcl; exact Option.some.inj hcl
  have he : (zWs X σ)[k]? = some (X.2.1 + k, .inr (ci, zFs X σ.2.1 σ.2.2 ci k)) := by rw [zWs_get hkn, zE_obj hk hci]
  have hrecv := va_recv hK hW.2.2.2.1 hq he
  rw [hqn] at hrecv
  have cb : CallW R s args M.1.cls M'.1.cls idx M'.1 M'.2.1 M'.2.2.1 M'.2.2.2.1 (zWd M') (zRm d M') (zcc M' M'.2.2.2.2.2) (zss M' M'.2.2.2.2.2) n :=
    ⟨⟨rfl, rfl, hdR, by show 8 + (M'.2.2.1 + 11) + 40 * d ≤ R.locals; omega, zT_pay hts m1, zWd_code, hts _ m1, hts _ m2, m3, fun sig h => by rw [zNp, h] at hnp; exact (Option.some.inj hnp).symm, hts _ hlink⟩, hts _ hi.1, hts _ hi.2⟩
  have hrun := va_runV (cells := zcc M σ.1) (slots := zss M σ.1) (locs := locs) (l := l) (e := e) (below := below) (meth := meth) (As := av.map (zV X)) (rest := rest.map (zV X)) (g := F0 m pc ls ((av.reverse ++ .ref k :: rest).map (zV X))) (b := X.2.1 + k)
    ⟨hx, hb, hml, hown, hts⟩ (kk X l) cb ⟨zPc_blind, hrecv, zPc_at hW hK hNw⟩ rfl (by rw [List.length_map]; exact hn0) hl.1 (by simp [zV]) (lv_room (by rw [zCat]; exact hrest)) hd (zRoom_cells hrm hcR hsR hnn)
  refine zMet_backS hrun hS fun r σ' H1 locs1 hK1 hEnd hW1 hq hS1 => ?_
  obtain ⟨g1, g2, g3, -⟩ := zRoom_end hrm hEnd
  have := hK1 (zSm_of hW hW1 hq) X p l e R s m args below meth c Q nn hC (fun q => (g3 q).trans (hn q)) hr H1 locs1 ls hW1 hS1 hl
  rw [g1, g2]
  rw [List.map_append] at this
  exact this
theorem wx_VS0 {ci k : Nat} (hd : decode M.2.1 pc = .ok (.invokevirtual idx, 3)) (hp : zPV M' 0 ci) (hlink : Cond.methodLink M.1.cls idx M'.1 ∈ zT) (hk : (zK k).1 = ci) (hkn : k < σ.1) (hrest : (rest.map fun v => v.category).sum ≤ 8) (hnn : σ.1 ≤ M.2.2.2.2.2 ∨ M.2.2.2.2.2 = 0) (kk : wm d M' [.ref k] σ (fun r σ' => zSm σ σ' → wx (d + 1) M (pc + 3) L (r ++ rest) σ' K)) : wx (d + 1) M pc L (.ref k :: rest) σ K :=
  wx_callVS (av := []) hd hp.1 hp.2.1 hlink hp.2.2.1 rfl hk hp.2.2.2.1 hp.2.2.2.2.1 hkn hrest (Or.inl hp.2.2.2.2.2) hnn kk
theorem wx_VS1 {ci k : Nat} {a1 : Value} (hd : decode M.2.1 pc = .ok (.invokevirtual idx, 3)) (hp : zPV M' 1 ci) (hlink : Cond.methodLink M.1.cls idx M'.1 ∈ zT) (hk : (zK k).1 = ci) (hkn : k < σ.1) (hrest : (rest.map fun v => v.category).sum ≤ 8) (hnn : σ.1 ≤ M.2.2.2.2.2 ∨ M.2.2.2.2.2 = 0) (kk : wm d M' [.ref k, a1] σ (fun r σ' => zSm σ σ' → wx (d + 1) M (pc + 3) L (r ++ rest) σ' K)) : wx (d + 1) M pc L (a1 :: .ref k :: rest) σ K :=
  wx_callVS (av := [a1]) hd hp.1 hp.2.1 hlink hp.2.2.1 rfl hk hp.2.2.2.1 hp.2.2.2.2.1 hkn hrest (Or.inl hp.2.2.2.2.2) hnn kk
theorem wx_VS2 {ci k : Nat} {a1 a2 : Value} (hd : decode M.2.1 pc = .ok (.invokevirtual idx, 3)) (hp : zPV M' 2 ci) (hlink : Cond.methodLink M.1.cls idx M'.1 ∈ zT) (hk : (zK k).1 = ci) (hkn : k < σ.1) (hrest : (rest.map fun v => v.category).sum ≤ 8) (hnn : σ.1 ≤ M.2.2.2.2.2 ∨ M.2.2.2.2.2 = 0) (kk : wm d M' [.ref k, a1, a2] σ (fun r σ' => zSm σ σ' → wx (d + 1) M (pc + 3) L (r ++ rest) σ' K)) : wx (d + 1) M pc L (a2 :: a1 :: .ref k :: rest) σ K :=
  wx_callVS (av := [a1, a2]) hd hp.1 hp.2.1 hlink hp.2.2.1 rfl hk hp.2.2.2.1 hp.2.2.2.2.1 hkn hrest (Or.inl hp.2.2.2.2.2) hnn kk
theorem wx_VS3 {ci k : Nat} {a1 a2 a3 : Value} (hd : decode M.2.1 pc = .ok (.invokevirtual idx, 3)) (hp : zPV M' 3 ci) (hlink : Cond.methodLink M.1.cls idx M'.1 ∈ zT) (hk : (zK k).1 = ci) (hkn : k < σ.1) (hrest : (rest.map fun v => v.category).sum ≤ 8) (hnn : σ.1 ≤ M.2.2.2.2.2 ∨ M.2.2.2.2.2 = 0) (kk : wm d M' [.ref k, a1, a2, a3] σ (fun r σ' => zSm σ σ' → wx (d + 1) M (pc + 3) L (r ++ rest) σ' K)) : wx (d + 1) M pc L (a3 :: a2 :: a1 :: .ref k :: rest) σ K :=
  wx_callVS (av := [a1, a2, a3]) hd hp.1 hp.2.1 hlink hp.2.2.1 rfl hk hp.2.2.2.1 hp.2.2.2.2.1 hkn hrest (Or.inl hp.2.2.2.2.2) hnn kk
theorem wx_sldN {i : Int32} {j n : Nat} (hd : decode M.2.1 pc = .ok (.iaload, 1)) (hi : i = nI j) (hl : (σ.2.2 155 0).toNatClampNeg = n) (hj : j < n) (hn : n < 2 ^ 31) (kk : wx d M (pc + 1) L (.int (σ.2.2 154 j) :: rest) σ K) : wx d M pc L (.int i :: .null :: rest) σ K := by
  subst hi
  refine wx_sld hd (by rw [hl]; exact vp_in_nI hj hn) ?_
  rw [nI_clamp (Nat.lt_trans hj hn)]
  exact kk
theorem wx_slenN {n : Nat} (hd : decode M.2.1 pc = .ok (.arraylength, 1)) (hl : (σ.2.2 155 0).toNatClampNeg = n) (kk : wx d M (pc + 1) L (.int (nI n) :: rest) σ K) : wx d M pc L (.null :: rest) σ K := by
  refine wx_slen hd ?_
  rw [hl]
  exact kk
end ZCL
abbrev mL_law : zMt := (x, cL_law, 4, some .boolean, 0, 154)
theorem zAnd31 (x : Int32) : ∃ k, k < 32 ∧ x &&& 31 = nI k := by
  have e : x = nI x.toBitVec.toNat := by
    unfold nI
    apply Int32.toBitVec_inj.mp
    simp [Int32.ofNat]
  refine ⟨x.toBitVec.toNat &&& 31, Nat.lt_of_le_of_lt Nat.and_le_right (by decide), ?_⟩
  rw [← nI_and, ← e]
  rfl
