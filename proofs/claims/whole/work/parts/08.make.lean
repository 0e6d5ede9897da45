/-! copying, making cells -/
theorem zAcopy_words : nativeFrameWords "java/lang/System" "arraycopy" 5 ≤ 21 := by decide +kernel
theorem zWs_succ {X : zX} {n : Nat} {rf : zR} {mm : zM} : zWs X (n + 1, rf, mm) = zWs X (n, rf, mm) ++ [(X.2.1 + n, zE X rf mm n)] := by
  simp [zWs, List.range_succ]
theorem zSlots {M : zMt} {n : Nat} (h : M.2.2.2.2.1 ≤ n) (h0 : M.2.2.2.2.2 ≠ 0) : zcc M (n + 1) = zcc M n + 1 ∧ zss M (n + 1) = zss M n + zSz n := by
  unfold zcc zss
  rw [if_neg h0, if_neg h0, if_neg h0, if_neg h0]
  have := zSum_mono h
  have e : zSum (n + 1) = zSum n + zSz n := rfl
  omega
theorem zSlots_le {M : zMt} {n : Nat} {R : Room} (h : M.2.2.2.2.1 ≤ n) (h0 : M.2.2.2.2.2 ≠ 0) (h1 : n + 1 ≤ M.2.2.2.2.2) (hcR : zcc M M.2.2.2.2.2 ≤ R.cells) (hsR : zss M M.2.2.2.2.2 ≤ R.slots) : zcc M n + 1 ≤ R.cells ∧ zss M n + zSz n ≤ R.slots := by
  unfold zcc zss at *
  rw [if_neg h0] at hcR hsR
  rw [if_neg h0, if_neg h0]
  have := zSum_mono h1
  have e : zSum (n + 1) = zSum n + zSz n := rfl
  have := zSum_mono h
  omega
theorem zWX_push {X : zX} {s : State} {σ : zS} {H H1 : Heap} (hW : zWX X s σ H) (hn : σ.1 + 1 ≤ 154) (hz : H1.size = X.2.1 + σ.1 + 1) (o1 : ∀ q : Nat, q < X.2.1 + σ.1 → H1[q]? = H[q]?) (hat : va_at X.2.2.1 vwCl (X.2.1 + σ.1, zE X σ.2.1 σ.2.2 σ.1) H1) : zWX X s (σ.1 + 1, σ.2.1, σ.2.2) H1 := by
  refine ⟨by rw [hz]; omega, hn, hW.2.2.1, ?_, ?_⟩
  · rw [zWs_succ]
    refine (hW.2.2.2.1.kept (fun k x hx => o1 x.1 (by rw [← hW.1]; exact (hW.2.2.2.1 k x hx).lt))).app (fun k x hx => ?_)
    have hz0 : k < 1 := (List.getElem?_eq_some_iff.mp hx).1
    rw [show k = 0 by omega] at hx
    cases hx
    exact hat
  · exact hW.2.2.2.2.kept (o1 _ (by have := hW.2.2.1; omega))
theorem zS_push {X : zX} {s : State} {σ : zS} {H H1 : Heap} {locs : List Loc} (hW : zWX X s σ H) (hS : va_S (zAp X) s.heap H locs) (hz : X.2.1 + σ.1 ≤ H1.size) (o1 : ∀ q : Nat, q < X.2.1 + σ.1 → H1[q]? = H[q]?) : va_S (zAp X) s.heap H1 locs :=
  ⟨Nat.le_trans hS.1 (by rw [hW.1]; exact hz), fun q h1 h2 => by rw [o1 q (by rw [← hW.1]; exact Nat.lt_of_lt_of_le h1 hS.1)]; exact hS.2.1 q h1 h2, hS.2.2⟩
section ZMK
variable {d : Nat} {M : zMt} {pc idx : Nat} {L : List (Option Value)} {rest st : List Value} {σ : zS} {K : List Value → zS → Prop}
theorem wx_acopy {ka kb na nb : Nat} {sp dp n : Int32} (hd : decode M.2.1 pc = .ok (.invokestatic idx, 3)) (w1 : Cond.methodLink M.1.cls idx arraycopyName ∈ zT) (w2 : Cond.native arraycopyName ∈ zT) (w3 : Cond.static arraycopyName ∈ zT) (w4 : Cond.initialized "java/lang/System" ∈ zT) (hka : zK ka = (10, na)) (hkb : zK kb = (10, nb)) (ha : ka < σ.1) (hkn : kb < σ.1)
    (h1 : ¬ sp < 0) (h2 : ¬ dp < 0) (h3 : ¬ n < 0) (h4 : sp.toNatClampNeg + n.toNatClampNeg ≤ na) (h5 : dp.toNatClampNeg + n.toNatClampNeg ≤ nb) (hrest : (rest.map fun v => v.category).sum ≤ 8)
    (kk : wx (d + 1) M (pc + 3) L rest (σ.1, σ.2.1, va_up σ.2.2 kb (va_cpy (σ.2.2 ka) (σ.2.2 kb) sp.toNatClampNeg dp.toNatClampNeg n.toNatClampNeg)) K) : wx (d + 1) M pc L (.int n :: .int dp :: .ref kb :: .int sp :: .ref ka :: rest) σ K := by
  intro X p l e R s m args below meth c Q nn hC hn hr H locs ls hW hS hl
  obtain ⟨hx, hb, hml, hown, hts, hret, hlk, hK, hNw, hnm, hdR, hlR, hcR, hsR⟩ := id hC
  have nn0 : ∀ z : Int32, ¬ z < 0 → z.toInt = (z.toNatClampNeg : Int) := by
    intro z hz
    have hz0 : (0 : Int) ≤ z.toInt := by
      have := Int32.not_lt.mp hz
      simpa using Int32.le_iff_toInt_le.mp this
    show z.toInt = ((z.toInt.toNat : Nat) : Int)
    omega
  have he1 : (zWs X σ)[kb]? = some (X.2.1 + kb, .inl (X.2.2.2.1, nb, .inl (σ.2.2 kb))) := by rw [zWs_get hkn, zE_int hkb]
  have hc0 : H[X.2.1 + ka]? = some (vp_cell X.2.2.2.1 (na, .inl (σ.2.2 ka))) := hW.2.2.2.1 ka (X.2.1 + ka, .inl (X.2.2.2.1, na, .inl (σ.2.2 ka))) (by rw [zWs_get ha, zE_int hka])
  have hc1 : H[X.2.1 + kb]? = some (vp_cell X.2.2.2.1 (nb, .inl (σ.2.2 kb))) := hW.2.2.2.1 kb _ he1
  have hKa := (hK.2 0 (X.2.2.2.1, .int) rfl).1
  have hwords := zAcopy_words
  intro T hT X0
  obtain ⟨-, k0, hk0, cm0, hkk0⟩ := hKa na (fun j => .int (σ.2.2 ka j))
  obtain ⟨-, k1, hk1, cm1, hkk1⟩ := hKa nb (fun j => .int (σ.2.2 kb j))
  obtain ⟨vm', X', step⟩ := X0.arraycopy hx hown (hts _ w1) (hts _ w2) (hts _ w3) (hts _ w4) (src := X.2.1 + ka) (dst := X.2.1 + kb) (cs := vp_cell X.2.2.2.1 (na, .inl (σ.2.2 ka))) (cd := vp_cell X.2.2.2.1 (nb, .inl (σ.2.2 kb))) (srcPos := sp) (destPos := dp) (n := n) (by rw [hT]; exact hc0) (by rw [hT]; exact hc1)
    (fun _ h => by cases h) (fun _ h => by cases h) (fun h => by cases h) (fun h => by cases h) hk0 hk1 hkk0 hkk1 (by rfl) h1 h2 h3
    (by rw [nn0 sp h1, nn0 n h3]; show ¬ _ > ((arrV X.2.2.2.1 na (fun j => .int (σ.2.2 ka j))).slots.size : Int); rw [arrV_size]; omega)
    (by rw [nn0 dp h2, nn0 n h3]; show ¬ _ > ((arrV X.2.2.2.1 nb (fun j => .int (σ.2.2 kb j))).slots.size : Int); rw [arrV_size]; omega)
    (fun vm₁ _ i hi => by
      have e : (vp_cell X.2.2.2.1 (na, .inl (σ.2.2 ka))).slots.getD (sp.toNatClampNeg + i) .null = .int (σ.2.2 ka (sp.toNatClampNeg + i)) := by
        show (arrV X.2.2.2.1 na (fun j => .int (σ.2.2 ka j))).slots.getD _ _ = _
        rw [Array.getD_eq_getD_getElem?, arrV_read _ _ (by omega)]
        rfl
      refine ⟨?_, ?_⟩
      · rw [e]; rfl
      · rw [e]
        exact trivial)
    (g := F0 m pc ls (.int n :: .int dp :: .ref (X.2.1 + kb) :: .int sp :: .ref (X.2.1 + ka) :: rest.map (zV X))) rfl (by rw [hml]; exact hl.1) (rest := rest.map (zV X)) rfl (by rw [hb]; exact hd) (by omega) (by show 2 * 0 + _ + _ ≤ _; rw [zCat]; omega)
  have e1 : copied (vp_cell X.2.2.2.1 (na, .inl (σ.2.2 ka))) (vp_cell X.2.2.2.1 (nb, .inl (σ.2.2 kb))) sp dp n = vp_cell X.2.2.2.1 (nb, .inl (va_cpy (σ.2.2 ka) (σ.2.2 kb) sp.toNatClampNeg dp.toNatClampNeg n.toNatClampNeg)) := va_copied (fun z => .int z) X.2.2.2.1 X.2.2.2.1 (σ.2.2 ka) (σ.2.2 kb) h4
  rw [e1] at X' step
  generalize hcell : vp_cell X.2.2.2.1 (nb, .inl (va_cpy (σ.2.2 ka) (σ.2.2 kb) sp.toNatClampNeg dp.toNatClampNeg n.toNatClampNeg)) = cell at X' step
  have hlt : X.2.1 + kb < H.size := (Array.getElem?_eq_some_iff.mp hc1).1
  have hheap : ((T.setVm vm').setCell (X.2.1 + kb) cell).heap = H.setIfInBounds (X.2.1 + kb) cell := by rw [← hT]; rfl
  have oq : ∀ q : Nat, q ≠ X.2.1 + kb → (H.setIfInBounds (X.2.1 + kb) cell)[q]? = H[q]? := fun q hq => by simp [Array.getElem?_setIfInBounds, Ne.symm hq]
  have hat : va_at X.2.2.1 vwCl (X.2.1 + kb, .inl (X.2.2.2.1, nb, .inl (va_cpy (σ.2.2 ka) (σ.2.2 kb) sp.toNatClampNeg dp.toNatClampNeg n.toNatClampNeg))) (H.setIfInBounds (X.2.1 + kb) cell) := by
    show (H.setIfInBounds (X.2.1 + kb) cell)[X.2.1 + kb]? = some (vp_cell _ _)
    rw [hcell]
    simp [Array.getElem?_setIfInBounds, hlt]
  have hP' := va_P.set hW.2.2.2.1 zWs_D he1 hat oq
  have hW' := zWX_put (rf' := σ.2.1) (mm' := va_up σ.2.2 kb (va_cpy (σ.2.2 ka) (σ.2.2 kb) sp.toNatClampNeg dp.toNatClampNeg n.toNatClampNeg)) hW (by simp) (oq _ (zNX hW)) hkn (by rw [zE_int hkb]; simp [va_up]) (fun _ _ => rfl) (fun a ha => if_neg ha) hP'
  obtain ⟨t, a1, b1⟩ := kk X p l e R s m args below meth c Q nn hC hn hr (H.setIfInBounds (X.2.1 + kb) cell) _ ls hW' ⟨by simp; exact hS.1, fun q g1 g2 => by
      rw [oq q (fun e => g2 (by rw [e]; exact Nat.le_add_right _ _))]
      exact hS.2.1 q g1 g2, fun q hq => by
      rcases List.mem_append.mp hq with h | h
      · exact hS.2.2 q h
      · obtain ⟨z, -, hz⟩ := List.mem_map.mp h
        rw [← hz]
        exact Nat.le_add_right _ _⟩ hl _ hheap X'
  exact ⟨t, step t a1, b1⟩
/-- the method makes the cells n0 to n1 - 1, and n is among them -/
def zMk (M : zMt) (n : Nat) : Prop := M.2.2.2.2.2 ≠ 0 ∧ M.2.2.2.2.1 ≤ n ∧ n + 1 ≤ M.2.2.2.2.2 ∧ M.2.2.2.2.2 ≤ 154
/-- entry idx of own's pool is a class whose objects are of kind ci -/
def zNc (own : String) (idx ci : Nat) : Prop := ∃ (C : String) (T : u_T) (ty : Nat → FieldType), zCl ci C T ty ∧ Cond.classLink own idx C ∈ zT ∧ Cond.instantiable C (zN ci) ∈ zT ∧ Cond.initialized C ∈ zT
theorem wx_new {ci : Nat} (hd : decode M.2.1 pc = .ok (.new idx, 3)) (hc : zNc M.1.cls idx ci) (hk : (zK σ.1).1 = ci) (hrf : σ.2.1 σ.1 = fun _ => none) (hmm : σ.2.2 σ.1 = fun _ => 0) (hal : zMk M σ.1) (kk : wx d M (pc + 3) L (.ref σ.1 :: st) (σ.1 + 1, σ.2.1, σ.2.2) K) : wx d M pc L st σ K := by
  intro X p l e R s m args below meth c Q nn hC hn hr H locs ls hW hS hl
  obtain ⟨hx, hb, hml, hown, hts, hret, hlk, hK, hNw, hnm, hdR, hlR, hcR, hsR⟩ := id hC
  obtain ⟨C, T, ty, ⟨c1, c2, c3, c4, c5, c6, c7⟩, hlink, hins, hini⟩ := hc
  obtain ⟨a1, a2, a3, a4⟩ := hal
  have hKn := hK.1 ci _ c1
  have hsz : zSz σ.1 = zN ci := by unfold zSz; rw [hk, if_pos c2]
  obtain ⟨z1, z2⟩ := zSlots_le a2 a1 a3 hcR hsR
  obtain ⟨y1, y2⟩ := zSlots (M := M) a2 a1
  rw [hsz] at z2 y2
  refine W.newcK hx hb hown (hts _ hlink) (hts _ hins) (hts _ hini) rfl hd z1 z2 hKn.2.1 hW.1 fun H1 kC hkC e1 zz o1 => ?_
  have hat : va_at X.2.2.1 vwCl (X.2.1 + σ.1, zE X σ.2.1 σ.2.2 σ.1) H1 := by
    rw [zE_obj hk c2]
    refine ⟨_, c1, (u_born ty hts c3 hKn hkC e1 c4).to (fun j hj => ?_)⟩
    show defaultValue (ty j) = (zFs X σ.2.1 σ.2.2 ci σ.1).getD j .null
    rw [c7 j hj]
    have hj' : j < zN ci := hj
    simp [zFs, hj', hrf, hmm, va_rf]
  have := kk X p l e R s m args below meth c Q nn hC (fun q => absurd q a1) hr H1 locs ls (zWX_push hW (Nat.le_trans a3 a4) zz o1 hat) (zS_push hW hS (by rw [zz]; omega) o1) hl
  rw [← y1, ← y2]
  exact this
theorem wx_newI {n : Int32} {N : Nat} (hd : decode M.2.1 pc = .ok (.newarray .int, 2)) (hw : Cond.arrayClass .int ∈ zT) (hk : zK σ.1 = (10, N)) (hmm : σ.2.2 σ.1 = fun _ => 0) (hal : zMk M σ.1) (hn0 : ¬ n < 0) (hN : n.toNatClampNeg = N) (hby : N * 4 ≤ 536870912) (kk : wx d M (pc + 2) L (.ref σ.1 :: st) (σ.1 + 1, σ.2.1, σ.2.2) K) : wx d M pc L (.int n :: st) σ K := by
  intro X p l e R s m args below meth c Q nn hC hn hr H locs ls hW hS hl
  obtain ⟨hx, hb, hml, hown, hts, hret, hlk, hK, hNw, hnm, hdR, hlR, hcR, hsR⟩ := id hC
  obtain ⟨a1, a2, a3, a4⟩ := hal
  have hsz : zSz σ.1 = N := by unfold zSz; rw [hk, if_neg (show ¬ (10 : Nat) < 10 by decide)]
  obtain ⟨z1, z2⟩ := zSlots_le a2 a1 a3 hcR hsR
  obtain ⟨y1, y2⟩ := zSlots (M := M) a2 a1
  rw [hsz] at z2 y2
  refine va_newaK (atype := .int) hx hb (hts _ hw) rfl hd rfl hn0 hN hby z1 z2 hW.1 fun H1 cA e1 zz o1 hAr hNm => ?_
  have hcA : cA = X.2.2.2.1 := Option.some.inj (hNm.symm.trans (hK.2 0 (X.2.2.2.1, .int) rfl).2)
  have hat : va_at X.2.2.1 vwCl (X.2.1 + σ.1, zE X σ.2.1 σ.2.2 σ.1) H1 := by
    rw [zE_int hk, hmm]
    show H1[X.2.1 + σ.1]? = some (vp_cell _ _)
    rw [e1, hcA]
    rfl
  have := kk X p l e R s m args below meth c Q nn hC (fun q => absurd q a1) hr H1 locs ls (zWX_push hW (Nat.le_trans a3 a4) zz o1 hat) (zS_push hW hS (by rw [zz]; omega) o1) hl
  rw [← y1, ← y2]
  exact this
theorem wx_newZ {n : Int32} {N : Nat} (hd : decode M.2.1 pc = .ok (.newarray .boolean, 2)) (hw : Cond.arrayClass .boolean ∈ zT) (hk : zK σ.1 = (11, N)) (hmm : σ.2.2 σ.1 = fun _ => 0) (hal : zMk M σ.1) (hn0 : ¬ n < 0) (hN : n.toNatClampNeg = N) (hby : N * 4 ≤ 536870912) (kk : wx d M (pc + 2) L (.ref σ.1 :: st) (σ.1 + 1, σ.2.1, σ.2.2) K) : wx d M pc L (.int n :: st) σ K := by
  intro X p l e R s m args below meth c Q nn hC hn hr H locs ls hW hS hl
  obtain ⟨hx, hb, hml, hown, hts, hret, hlk, hK, hNw, hnm, hdR, hlR, hcR, hsR⟩ := id hC
  obtain ⟨a1, a2, a3, a4⟩ := hal
  have hsz : zSz σ.1 = N := by unfold zSz; rw [hk, if_neg (show ¬ (11 : Nat) < 10 by decide)]
  obtain ⟨z1, z2⟩ := zSlots_le a2 a1 a3 hcR hsR
  obtain ⟨y1, y2⟩ := zSlots (M := M) a2 a1
  rw [hsz] at z2 y2
  refine va_newaK (atype := .boolean) hx hb (hts _ hw) rfl hd rfl hn0 hN (by show N * 1 ≤ _; omega) z1 z2 hW.1 fun H1 cA e1 zz o1 hAr hNm => ?_
  have hcA : cA = X.2.2.2.2.2 := Option.some.inj (hNm.symm.trans (hK.2 2 (X.2.2.2.2.2, .boolean) rfl).2)
  have hat : va_at X.2.2.1 vwCl (X.2.1 + σ.1, zE X σ.2.1 σ.2.2 σ.1) H1 := by
    rw [zE_bool hk, hmm]
    show H1[X.2.1 + σ.1]? = some (vp_cell _ _)
    rw [e1, hcA]
    rfl
  have := kk X p l e R s m args below meth c Q nn hC (fun q => absurd q a1) hr H1 locs ls (zWX_push hW (Nat.le_trans a3 a4) zz o1 hat) (zS_push hW hS (by rw [zz]; omega) o1) hl
  rw [← y1, ← y2]
  exact this
theorem zWs_add {X : zX} {n : Nat} {rf : zR} {mm : zM} : ∀ j : Nat, zWs X (n + j, rf, mm) = zWs X (n, rf, mm) ++ (List.range j).map (fun i => (X.2.1 + (n + i), zE X rf mm (n + i)))
  | 0 => by simp
  | j + 1 => by
    rw [show n + (j + 1) = (n + j) + 1 by omega, zWs_succ, zWs_add j, List.range_succ, List.map_append, List.append_assoc]
    rfl
theorem zSum_add {n N K1 : Nat} : ∀ j : Nat, j ≤ N → (∀ i, i < N → zSz (n + i) = K1) → zSum (n + j) = zSum n + j * K1
  | 0, _, _ => by simp
  | j + 1, hj, h => by
    have ih := zSum_add (n := n) j (by omega) h
    show zSum (n + j) + zSz (n + j) = _
    rw [ih, h j (by omega), Nat.succ_mul, Nat.add_assoc]
theorem wx_new2 {n k : Int32} {N K1 : Nat} (hd : decode M.2.1 pc = .ok (.multianewarray idx 2, 4)) (hlink : Cond.classLink M.1.cls idx ("[" ++ (FieldType.array .int).toString) ∈ zT) (hw : Cond.arrayClass .int ∈ zT) (hk : zK σ.1 = (12, N)) (hki : ∀ i, i < N → zK (σ.1 + 1 + i) = (10, K1)) (hrf : σ.2.1 σ.1 = fun _ => none) (hmm : ∀ i, i < N → σ.2.2 (σ.1 + 1 + i) = fun _ => 0)
    (hal : M.2.2.2.2.2 ≠ 0 ∧ M.2.2.2.2.1 ≤ σ.1 ∧ σ.1 + 1 + N ≤ M.2.2.2.2.2 ∧ M.2.2.2.2.2 ≤ 154) (hn0 : ¬ n < 0) (hk0 : ¬ k < 0) (hN : n.toNatClampNeg = N) (hM : k.toNatClampNeg = K1) (hb1 : N * 4 ≤ 536870912) (hb2 : K1 * 4 ≤ 536870912)
    (kk : wx d M (pc + 4) L (.ref σ.1 :: st) (σ.1 + 1 + N, va_up σ.2.1 σ.1 (fun i => if i < N then some (σ.1 + 1 + i) else none), σ.2.2) K) : wx d M pc L (.int k :: .int n :: st) σ K := by
  intro X p l e R s m args below meth c Q nn hC hn hr H locs ls hW hS hl
  obtain ⟨hx, hb, hml, hown, hts, hret, hlk, hK, hNw, hnm, hdR, hlR, hcR, hsR⟩ := id hC
  obtain ⟨a1, a2, a3, a4⟩ := hal
  have hsz0 : zSz σ.1 = N := by unfold zSz; rw [hk, if_neg (show ¬ (12 : Nat) < 10 by decide)]
  have hszi : ∀ i, i < N → zSz (σ.1 + 1 + i) = K1 := fun i hi => by unfold zSz; rw [hki i hi, if_neg (show ¬ (10 : Nat) < 10 by decide)]
  have hsum : zSum (σ.1 + 1 + N) = zSum σ.1 + N + N * K1 := by
    rw [zSum_add (n := σ.1 + 1) N (Nat.le_refl _) hszi]
    show zSum σ.1 + zSz σ.1 + N * K1 = _
    rw [hsz0]
  have hmono := zSum_mono a2
  have hmono2 := zSum_mono a3
  have hcells : zcc M σ.1 + (1 + N) ≤ R.cells ∧ zss M σ.1 + (N + N * K1) ≤ R.slots ∧ zcc M (σ.1 + 1 + N) = zcc M σ.1 + 1 + N ∧ zss M (σ.1 + 1 + N) = zss M σ.1 + N + N * K1 := by
    unfold zcc zss at *
    rw [if_neg a1] at hcR hsR
    rw [if_neg a1, if_neg a1, if_neg a1, if_neg a1]
    omega
  subst hN
  subst hM
  intro T hT X0
  obtain ⟨vm₁, cA, comp, -, fA, fC, hO, -, X', step⟩ := X0.multianewarray2F hx hown (hts _ hlink) (by exact hNw.2) (hts _ hw) (g := F0 m pc ls ((Value.int k :: Value.int n :: st).map (zV X))) rfl (by rw [hb]; exact hd) rfl hn0 hk0 hb1 hb2 (by omega) (by rfl) (by rfl) hcells.1 hcells.2.1
  have hcA : cA = X.2.2.2.2.1 := Option.some.inj (fA.symm.trans (hK.2 1 (X.2.2.2.2.1, .array .int) rfl).2)
  have hcI : comp = X.2.2.2.1 := Option.some.inj (fC.symm.trans (hK.2 0 (X.2.2.2.1, .int) rfl).2)
  subst hcA
  subst hcI
  generalize hF : Jvm.Free.Multi.fill (T.setVm vm₁) X.2.2.2.2.1 X.2.2.2.1 n.toNatClampNeg k.toNatClampNeg (defaultValue .int) n.toNatClampNeg = F at X' step
  have hTh : (T.setVm vm₁).heap = H := hT
  obtain ⟨f1, f2, -, -⟩ := Jvm.Free.Multi.fill_facts (T.setVm vm₁) X.2.2.2.2.1 X.2.2.2.1 n.toNatClampNeg k.toNatClampNeg (defaultValue .int) n.toNatClampNeg
  rw [hF, hTh, hW.1] at f1 f2
  have hold : ∀ x : Nat, x < X.2.1 + σ.1 → F.heap[x]? = H[x]? := fun x hx => by
    have := Jvm.Free.Multi.fill_old (T.setVm vm₁) X.2.2.2.2.1 X.2.2.2.1 n.toNatClampNeg k.toNatClampNeg (defaultValue .int) (a := x) (by rw [hTh, hW.1]; exact hx) n.toNatClampNeg
    rw [hF, hTh] at this
    exact this
  have hrow : ∀ j : Nat, j < n.toNatClampNeg → F.heap[X.2.1 + σ.1 + 1 + j]? = some (vp_cell X.2.2.2.1 (k.toNatClampNeg, .inl (fun _ => 0))) := fun j hj => by
    have := Jvm.Free.Multi.fill_inner (T.setVm vm₁) X.2.2.2.2.1 X.2.2.2.1 n.toNatClampNeg k.toNatClampNeg (defaultValue .int) n.toNatClampNeg j hj
    rw [hF, hTh, hW.1] at this
    rw [this]
    show some (Jvm.Free.Multi.innerC _ _ _) = _
    rw [vp_cell_i, ← arrV_new]
    rfl
  rw [vr_outer] at f2
  obtain ⟨nS, rf, mm⟩ := σ
  have hW' : zWX X s (nS + 1 + n.toNatClampNeg, va_up rf nS (fun i => if i < n.toNatClampNeg then some (nS + 1 + i) else none), mm) F.heap := by
    refine ⟨by rw [f1]; show X.2.1 + nS + 1 + n.toNatClampNeg = X.2.1 + (nS + 1 + n.toNatClampNeg); omega, Nat.le_trans a3 a4, hW.2.2.1, ?_, ?_⟩
    · rw [show nS + 1 + n.toNatClampNeg = (nS + 1) + n.toNatClampNeg by omega, zWs_add, zWs_succ]
      have hP0 : va_P X.2.2.1 vwCl (zWs X (nS, va_up rf nS (fun i => if i < n.toNatClampNeg then some (nS + 1 + i) else none), mm)) F.heap := by
        intro q x hx
        obtain ⟨h1, rfl⟩ := zWs_of hx
        have h2 := hW.2.2.2.1 q (X.2.1 + q, zE X rf mm q) (zWs_get (σ := (nS, rf, mm)) h1)
        rw [zE_cong (rf := rf) (mm := mm) (if_neg (Nat.ne_of_lt h1)) rfl]
        exact h2.kept (hold _ (Nat.add_lt_add_left h1 _))
      refine (hP0.app (fun q x hx => ?_)).app (fun q x hx => ?_)
      · have h0 : q < 1 := (List.getElem?_eq_some_iff.mp hx).1
        rw [show q = 0 by omega] at hx
        cases hx
        rw [zE_out hk]
        show F.heap[X.2.1 + nS]? = some (vp_cell _ _)
        rw [f2, vp_cell_q]
        congr 2
        funext j
        simp only [va_up, if_pos]
        by_cases hj : j < n.toNatClampNeg
        · rw [if_pos hj, if_pos hj]
          show va_rf (some _) = va_rf (some _)
          congr 2
          show X.2.1 + nS + 1 + j = X.2.1 + (nS + 1 + j)
          omega
        · rw [if_neg hj, if_neg hj]
          rfl
      · obtain ⟨i, hi, rfl⟩ := List.mem_map.mp (List.mem_of_getElem? hx)
        have hi' := List.mem_range.mp hi
        have hzi := hki i hi'
        have hmi := hmm i hi'
        rw [zE_int hzi]
        show F.heap[X.2.1 + (nS + 1 + i)]? = some (vp_cell _ _)
        rw [show X.2.1 + (nS + 1 + i) = X.2.1 + nS + 1 + i by omega, hrow i hi']
        show _ = some (vp_cell _ (_, .inl (mm (nS + 1 + i))))
        rw [show mm (nS + 1 + i) = fun _ => 0 from hmi]
    · have h154 : 154 ≠ nS := by
        have : nS + 1 + n.toNatClampNeg ≤ 154 := Nat.le_trans a3 a4
        omega
      show va_X X.1 (mm 155 0).toNatClampNeg (mm 154) s F.heap
      exact hW.2.2.2.2.kept (hold _ (by have := hW.2.2.1; show X.1 < X.2.1 + nS; omega))
  have key := kk X p l e R s m args below meth c Q nn hC (fun q => absurd q a1) hr F.heap locs ls hW' (zS_push hW hS (by rw [f1]; omega) hold) hl
  rw [show zcc M (nS + 1 + n.toNatClampNeg, va_up rf nS (fun i => if i < n.toNatClampNeg then some (nS + 1 + i) else none), mm).1 = zcc M nS + 1 + n.toNatClampNeg from hcells.2.2.1, show zss M (nS + 1 + n.toNatClampNeg, va_up rf nS (fun i => if i < n.toNatClampNeg then some (nS + 1 + i) else none), mm).1 = zss M nS + n.toNatClampNeg + n.toNatClampNeg * k.toNatClampNeg from hcells.2.2.2] at key
  obtain ⟨t, b1, b2⟩ := key F rfl X'
  refine ⟨t, step t ?_, b2⟩
  have hTs : T.heap.size = X.2.1 + nS := by rw [hT]; exact hW.1
  rw [hTs]
  exact b1
end ZMK
