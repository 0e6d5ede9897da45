/-! what the constructors make -/
section ZMT
variable {d : Nat} {M M' : zMt} {pc idx : Nat} {L : List (Option Value)} {rest st : List Value} {K : List Value → zS → Prop} {n0 n1 : Nat} {rf : zR} {mm : zM}
theorem wx_newT {ci : Nat} (hd : decode M.2.1 pc = .ok (.new idx, 3)) (hc : zNc M.1.cls idx ci) (hk : (zK n0).1 = ci) (hrf : rf n0 = fun _ => none) (hmm : mm n0 = fun _ => 0) (hal : zMk M n0) (h1 : n0 + 1 = n1) (kk : wx d M (pc + 3) L (.ref n0 :: st) (n1, rf, mm) K) : wx d M pc L st (n0, rf, mm) K := by
  subst h1
  exact wx_new hd hc hk hrf hmm hal kk
theorem wx_newIT {n : Int32} {N : Nat} (hd : decode M.2.1 pc = .ok (.newarray .int, 2)) (hw : Cond.arrayClass .int ∈ zT) (hk : zK n0 = (10, N)) (hmm : mm n0 = fun _ => 0) (hal : zMk M n0) (hn0 : ¬ n < 0) (hN : n.toNatClampNeg = N) (hby : N * 4 ≤ 536870912) (h1 : n0 + 1 = n1) (kk : wx d M (pc + 2) L (.ref n0 :: st) (n1, rf, mm) K) : wx d M pc L (.int n :: st) (n0, rf, mm) K := by
  subst h1
  exact wx_newI hd hw hk hmm hal hn0 hN hby kk
theorem wx_newZT {n : Int32} {N : Nat} (hd : decode M.2.1 pc = .ok (.newarray .boolean, 2)) (hw : Cond.arrayClass .boolean ∈ zT) (hk : zK n0 = (11, N)) (hmm : mm n0 = fun _ => 0) (hal : zMk M n0) (hn0 : ¬ n < 0) (hN : n.toNatClampNeg = N) (hby : N * 4 ≤ 536870912) (h1 : n0 + 1 = n1) (kk : wx d M (pc + 2) L (.ref n0 :: st) (n1, rf, mm) K) : wx d M pc L (.int n :: st) (n0, rf, mm) K := by
  subst h1
  exact wx_newZ hd hw hk hmm hal hn0 hN hby kk
theorem wx_new2T {n k : Int32} {N K1 : Nat} (hd : decode M.2.1 pc = .ok (.multianewarray idx 2, 4)) (hlink : Cond.classLink M.1.cls idx ("[" ++ (FieldType.array .int).toString) ∈ zT) (hw : Cond.arrayClass .int ∈ zT) (hk : zK n0 = (12, N)) (hki : ∀ i, i < N → zK (n0 + 1 + i) = (10, K1)) (hrf : rf n0 = fun _ => none) (hmm : ∀ i, i < N → mm (n0 + 1 + i) = fun _ => 0)
    (hal : M.2.2.2.2.2 ≠ 0 ∧ M.2.2.2.2.1 ≤ n0 ∧ n0 + 1 + N ≤ M.2.2.2.2.2 ∧ M.2.2.2.2.2 ≤ 154) (hn0 : ¬ n < 0) (hk0 : ¬ k < 0) (hN : n.toNatClampNeg = N) (hM : k.toNatClampNeg = K1) (hb1 : N * 4 ≤ 536870912) (hb2 : K1 * 4 ≤ 536870912) (h1 : n0 + 1 + N = n1)
    (kk : wx d M (pc + 4) L (.ref n0 :: st) (n1, va_up rf n0 (fun i => if i < N then some (n0 + 1 + i) else none), mm) K) : wx d M pc L (.int k :: .int n :: st) (n0, rf, mm) K := by
  subst h1
  exact wx_new2 hd hlink hw hk hki hrf hmm hal hn0 hk0 hN hM hb1 hb2 kk
theorem wx_putIT {idx ci j k : Nat} {ty0 : FieldType} {v : Int32} (hd : decode M.2.1 pc = .ok (.putfield idx, 3)) (hf : zF M.1.cls idx ci j false ty0) (hk : (zK k).1 = ci) (hj : zIR ci j = false) (hkn : k < n0) (hnar : narrow ty0 (.int v) = .int v) (hfit : fits ty0 (.int v) = true) (kk : wx d M (pc + 3) L st (n0, rf, zU mm k j v) K) : wx d M pc L (.int v :: .ref k :: st) (n0, rf, mm) K :=
  wx_putI hd hf hk hj hkn hnar hfit kk
theorem wx_putRT {idx ci j k t : Nat} {ty0 : FieldType} (hd : decode M.2.1 pc = .ok (.putfield idx, 3)) (hf : zF M.1.cls idx ci j true ty0) (hk : (zK k).1 = ci) (hj : zIR ci j = true) (hkn : k < n0) (hin : M.1.name = "<init>") (hcl : vwCl[ci]?.map (fun q => q.1) = some M.1.cls) (hnar : ∀ q : Nat, narrow ty0 (.ref q) = .ref q) (hfit : ∀ q : Nat, fits ty0 (.ref q) = true) (kk : wx d M (pc + 3) L st (n0, zUr rf k j t, mm) K) : wx d M pc L (.ref t :: .ref k :: st) (n0, rf, mm) K :=
  wx_putR hd hf hk hj hkn hin hcl hnar hfit kk
end ZMT
theorem zRv_ne {rf : zR} {k a : Nat} {f : Nat → Option Nat} (h : a ≠ k) : va_up rf k f a = rf a := if_neg h
theorem zRv_at {rf : zR} {k : Nat} {f : Nat → Option Nat} : va_up rf k f k = f := if_pos rfl
theorem zUr_at {rf : zR} {k j t : Nat} : zUr rf k j t k = va_up (rf k) j (some t) := if_pos rfl
theorem zRF_arr {k : Nat} (h : k < 154) (hk : (zK k).1 = 10 ∨ (zK k).1 = 11) : zRF k = fun _ => none := by
  have key : ∀ k, k < 154 → ((zK k).1 = 10 ∨ (zK k).1 = 11) → (zRl.lookup k).getD [] = [] := by decide +kernel
  funext i
  unfold zRF
  rw [if_pos h, if_neg (by omega), key k h hk]
  rfl
theorem zRF_two {k n : Nat} (h : k < 154) (hk : zK k = (12, n)) : zRF k = fun i => if i < n then some (k + 1 + i) else none := by
  funext i
  unfold zRF
  rw [if_pos h, hk, if_pos rfl]
theorem zRF_hi {k : Nat} (h : 154 ≤ k) : zRF k = fun _ => none := by
  funext i
  unfold zRF
  rw [if_neg (by omega)]
theorem zRF_ob {k : Nat} {l : List (Option Nat)} (h : k < 154) (hk : (zK k).1 < 10) (hl : (zRl.lookup k).getD [] = l) : zRF k = fun i => l.getD i none := by
  funext i
  unfold zRF
  rw [if_pos h, if_neg (by omega), hl]
/-- the kinds of the cells that are rows of numbers -/
theorem zK_arr : ∀ k, k < 154 → ¬ (k = 0 ∨ k = 1 ∨ k = 2 ∨ k = 3 ∨ k = 13 ∨ k = 17 ∨ k = 20 ∨ k = 27 ∨ k = 88 ∨ k = 90 ∨ k = 98 ∨ k = 99 ∨ k = 107 ∨ k = 114 ∨ k = 117 ∨ k = 120 ∨ k = 128) → ((zK k).1 = 10 ∨ (zK k).1 = 11) := by decide +kernel
/-- references of the cells from lo to hi are made, no others touched -/
def zCr (lo hi : Nat) (rf rf2 : zR) : Prop := (∀ k, ¬ (lo ≤ k ∧ k < hi) → rf2 k = rf k) ∧ ∀ k, lo ≤ k → k < hi → rf2 k = zRF k
/-- nothing is there yet from lo to hi -/
def zNo0 (lo hi : Nat) (rf : zR) (mm : zM) : Prop := (∀ k, lo ≤ k → k < hi → rf k = fun _ => none) ∧ ∀ k, lo ≤ k → k < hi → mm k = fun _ => 0
theorem s_X1_init {d : Nat} {K : List Value → zS → Prop} {mm : zM} {rf : zR} (hK : K [] (2, rf, zU (zU (zU mm 1 0 1000) 1 1 (-1)) 1 2 1)) : wm (d + 1) mX1_init [.ref 1] (2, rf, mm) K := by
  refine wm_of2 (L0 := [some (.ref 1)]) zCm_X1_init (Or.inl rfl) (Nat.le_of_ble_eq_true rfl) rfl ?_
  refine wx_aload_n (i := 0) dX1_init_0 rfl rfl ?_
  refine wx_objInit dX1_init_1 zLk_X1_3 zOb_i zOb_c (Nat.le_of_ble_eq_true rfl) ?_
  refine wx_aload_n (i := 0) dX1_init_4 rfl rfl ?_
  refine wx_sipush (v := 1000) dX1_init_5 (by decide) ?_
  refine wx_putI (k := 1) dX1_init_8 zF_X1_9 zKo_1 rfl (Nat.le_of_ble_eq_true rfl) rfl rfl ?_
  refine wx_aload_n (i := 0) dX1_init_11 rfl rfl ?_
  refine wx_iconst (v := (-1)) dX1_init_12 (by decide) ?_
  refine wx_putI (k := 1) dX1_init_13 zF_X1_15 zKo_1 rfl (Nat.le_of_ble_eq_true rfl) rfl rfl ?_
  refine wx_aload_n (i := 0) dX1_init_16 rfl rfl ?_
  refine wx_iconst (v := 1) dX1_init_17 (by decide) ?_
  refine wx_putI (k := 1) dX1_init_18 zF_X1_18 zKo_1 rfl (Nat.le_of_ble_eq_true rfl) rfl rfl ?_
  refine wx_vret dX1_init_21 rfl (Or.inl rfl) ?_
  exact hK
theorem s_X7_init {d : Nat} {K : List Value → zS → Prop} {mm : zM} {rf : zR} (hN : zNo0 13 17 rf mm) (hK : ∀ (rf2 : zR) (mm2 : zM), zCr 13 17 rf rf2 → (∀ k, ¬ (13 ≤ k ∧ k < 17) → mm2 k = mm k) → mm2 13 4 = 0 → (∀ k, 14 ≤ k → k < 17 → mm2 k = fun _ => 0) → K [] (17, rf2, mm2))  : wm (d + 5) mX7_init [.ref 13, .ref 2] (14, rf, mm) K := by
  obtain ⟨hr, hm⟩ := id hN
  refine wm_of2 (L0 := [some (.ref 13), some (.ref 2)]) zCm_X7_init (Or.inr rfl) (Nat.le_of_ble_eq_true rfl) rfl ?_
  refine wx_aload_n (i := 0) dX7_init_0 rfl rfl ?_
  refine wx_objInit dX7_init_1 zLk_X7_3 zOb_i zOb_c (Nat.le_of_ble_eq_true rfl) ?_
  refine wx_aload_n (i := 0) dX7_init_4 rfl rfl ?_
  refine wx_bipush (v := 12) dX7_init_5 (by decide) ?_
  refine wx_newIT (N := 12) (n0 := 14) (n1 := 15) dX7_init_7 zAi zK_14 (by (try dsimp only); (repeat rw [zU_ne (by omega)]); exact hm _ (by omega) (by omega)) ⟨by decide, by decide, by decide, by decide⟩ (by decide) (by decide) (Nat.le_of_ble_eq_true rfl) rfl ?_
  refine wx_putRT (k := 13) dX7_init_9 zF_X7_9 zKo_13 rfl (Nat.le_of_ble_eq_true rfl) rfl rfl (fun _ => rfl) (fun _ => rfl) ?_
  refine wx_aload_n (i := 0) dX7_init_12 rfl rfl ?_
  refine wx_bipush (v := 12) dX7_init_13 (by decide) ?_
  refine wx_newIT (N := 12) (n0 := 15) (n1 := 16) dX7_init_15 zAi zK_15 (by (try dsimp only); (repeat rw [zU_ne (by omega)]); exact hm _ (by omega) (by omega)) ⟨by decide, by decide, by decide, by decide⟩ (by decide) (by decide) (Nat.le_of_ble_eq_true rfl) rfl ?_
  refine wx_putRT (k := 13) dX7_init_17 zF_X7_15 zKo_13 rfl (Nat.le_of_ble_eq_true rfl) rfl rfl (fun _ => rfl) (fun _ => rfl) ?_
  refine wx_aload_n (i := 0) dX7_init_20 rfl rfl ?_
  refine wx_bipush (v := 12) dX7_init_21 (by decide) ?_
  refine wx_newIT (N := 12) (n0 := 16) (n1 := 17) dX7_init_23 zAi zK_16 (by (try dsimp only); (repeat rw [zU_ne (by omega)]); exact hm _ (by omega) (by omega)) ⟨by decide, by decide, by decide, by decide⟩ (by decide) (by decide) (Nat.le_of_ble_eq_true rfl) rfl ?_
  refine wx_putRT (k := 13) dX7_init_25 zF_X7_18 zKo_13 rfl (Nat.le_of_ble_eq_true rfl) rfl rfl (fun _ => rfl) (fun _ => rfl) ?_
  refine wx_aload_n (i := 0) dX7_init_28 rfl rfl ?_
  refine wx_iconst (v := 0) dX7_init_29 (by decide) ?_
  refine wx_putIT (k := 13) dX7_init_30 zF_X7_21 zKo_13 rfl (Nat.le_of_ble_eq_true rfl) rfl rfl ?_
  refine wx_aload_n (i := 0) dX7_init_33 rfl rfl ?_
  refine wx_aload_n (i := 1) dX7_init_34 rfl rfl ?_
  refine wx_putRT (k := 13) dX7_init_35 zF_X7_25 zKo_13 rfl (Nat.le_of_ble_eq_true rfl) rfl rfl (fun _ => rfl) (fun _ => rfl) ?_
  refine wx_vret dX7_init_38 rfl (Or.inr rfl) ?_
  refine hK _ _ ⟨fun k w => ?_, fun k w1 w2 => ?_⟩ (fun k w => ?_) ?_ ?_
  · (repeat first | rw [zUr_ne (by omega)] | rw [zRv_ne (by omega)])
  · by_cases e : k = 13
    · subst e
      rw [zRF_ob (l := [some 2, some 14, some 15, some 16, none]) (by decide) (by rw [zKo_13]; decide) (by decide +kernel)]
      funext i
      (repeat first | rw [zUr_at] | rw [zUr_ne (by omega)] | rw [zRv_ne (by omega)])
      rw [hr 13 (by omega) (by omega)]
      unfold va_up
      rcases (by omega : i = 0 ∨ i = 1 ∨ i = 2 ∨ i = 3 ∨ i = 4 ∨ 5 ≤ i) with rfl | rfl | rfl | rfl | rfl | hi
      · rfl
      · rfl
      · rfl
      · rfl
      · rfl
      · (repeat rw [if_neg (by omega)])
        rw [List.getD_eq_getElem?_getD, List.getElem?_eq_none hi]; rfl
    rw [zRF_arr (by omega) (zK_arr k (by omega) (by omega))]
    (repeat first | rw [zUr_ne (by omega)] | rw [zRv_ne (by omega)])
    exact hr k w1 w2
  · (repeat first | rw [zU_ne (by omega)] | rw [zFl_off (by omega)])
  · rw [zU_same]
  · intro k w1 w2
    (repeat first | rw [zU_ne (by omega)] | rw [zFl_off (by omega)])
    exact hm k (by omega) (by omega)
