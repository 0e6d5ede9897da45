/-! the calls of the reference that join -/
theorem s_X9_joined_bad {d : Nat} {K : List Value → zS → Prop} {mm : zM} {a : Int32} (hb : ¬ ((0 ≤ a ∧ a ≤ 2))) (hK : K [.int (-100)] (zG mm)) : wm (d + 6) mX9_joined [.ref 128, .int a] (zG mm) K := by
  refine wm_of2 (L0 := [some (.ref 128), some (.int a), none]) zCm_X9_joined (Or.inl rfl) (Nat.le_of_ble_eq_true rfl) rfl ?_
  refine wx_iload_n (i := 1) dX9_joined_0 rfl rfl ?_
  refine wx_iconst (v := 0) dX9_joined_1 (by decide) ?_
  refine wx_iconst (v := 2) dX9_joined_2 (by decide) ?_
  refine wx_S3 dX9_joined_3 zPS_X9_in zLk_X9_116 (Nat.le_of_ble_eq_true rfl) (Or.inr rfl) ?_
  refine s_X9_in _ _ _ ?_
  refine wx_r1 ?_
  refine wx_neb (tgt := 12) dX9_joined_6 (by decide) (fun h6 => ?_) (fun h6 => ?_)
  · skip
    exact (hb (by assumption)).elim
  · skip
    refine wx_bipush (v := (-100)) dX9_joined_9 (by decide) ?_
    refine wx_iret dX9_joined_11 rfl rfl (Or.inl rfl) ?_
    exact hK
theorem s_X9_step_bad {d : Nat} {K : List Value → zS → Prop} {mm : zM} {a : Int32} (hb : ¬ ((0 ≤ a ∧ a ≤ mm 128 0 - 2))) (hK : K [.int 10000] (zG mm)) : wm (d + 6) mX9_step [.ref 128, .int a] (zG mm) K := by
  refine wm_of2 (L0 := [some (.ref 128), some (.int a)]) zCm_X9_step (Or.inl rfl) (Nat.le_of_ble_eq_true rfl) rfl ?_
  refine wx_iload_n (i := 1) dX9_step_0 rfl rfl ?_
  refine wx_iconst (v := 0) dX9_step_1 (by decide) ?_
  refine wx_aload_n (i := 0) dX9_step_2 rfl rfl ?_
  refine wx_getIG (k := 128) dX9_step_3 zF_X9_7 zKo_128 rfl (Nat.le_of_ble_eq_true rfl) ?_
  refine wx_iconst (v := 2) dX9_step_6 (by decide) ?_
  refine wx_isub dX9_step_7 ?_
  refine wx_S3 dX9_step_8 zPS_X9_in zLk_X9_116 (Nat.le_of_ble_eq_true rfl) (Or.inr rfl) ?_
  refine s_X9_in _ _ _ ?_
  refine wx_r1 ?_
  refine wx_neb (tgt := 18) dX9_step_11 (by decide) (fun h11 => ?_) (fun h11 => ?_)
  · skip
    exact (hb (by assumption)).elim
  · skip
    refine wx_sipush (v := 10000) dX9_step_14 (by decide) ?_
    refine wx_iret dX9_step_17 rfl rfl (Or.inl rfl) ?_
    exact hK
theorem s_X9_profile_bad {d : Nat} {K : List Value → zS → Prop} {mm : zM} {a : Int32} (hb : ¬ ((0 ≤ a ∧ a ≤ mm 128 0 - 1))) (hK : K [.int 2000000] (zG mm)) : wm (d + 6) mX9_profile [.ref 128, .int a] (zG mm) K := by
  refine wm_of2 (L0 := [some (.ref 128), some (.int a)]) zCm_X9_profile (Or.inl rfl) (Nat.le_of_ble_eq_true rfl) rfl ?_
  refine wx_aload_n (i := 0) dX9_profile_0 rfl rfl ?_
  refine wx_iload_n (i := 1) dX9_profile_1 rfl rfl ?_
  refine wx_V1 dX9_profile_2 zPV_X9_isZone zLk_X9_130 rfl (Nat.le_of_ble_eq_true rfl) (Nat.le_of_ble_eq_true rfl) (Or.inr rfl) ?_
  refine s_X9_isZone _ ?_
  refine wx_r1 ?_
  refine wx_neb (tgt := 11) dX9_profile_5 (by decide) (fun h5 => ?_) (fun h5 => ?_)
  · skip
    exact (hb (by assumption)).elim
  · skip
    refine wx_ldc dX9_profile_8 zKc_X9_163 ?_
    refine wx_iret dX9_profile_10 rfl rfl (Or.inl rfl) ?_
    exact hK
theorem s_X9_wires_bad {d : Nat} {K : List Value → zS → Prop} {mm : zM} {a : Int32} (hb : ¬ ((0 ≤ a ∧ a ≤ 2 + mm 128 8))) (hK : K [.int 2000000] (zG mm)) : wm (d + 6) mX9_wires [.ref 128, .int a] (zG mm) K := by
  refine wm_of2 (L0 := [some (.ref 128), some (.int a), none, none, none, none]) zCm_X9_wires (Or.inl rfl) (Nat.le_of_ble_eq_true rfl) rfl ?_
  refine wx_iload_n (i := 1) dX9_wires_0 rfl rfl ?_
  refine wx_iconst (v := 0) dX9_wires_1 (by decide) ?_
  refine wx_iconst (v := 2) dX9_wires_2 (by decide) ?_
  refine wx_aload_n (i := 0) dX9_wires_3 rfl rfl ?_
  refine wx_getIG (k := 128) dX9_wires_4 zF_X9_110 zKo_128 rfl (Nat.le_of_ble_eq_true rfl) ?_
  refine wx_iadd dX9_wires_7 ?_
  refine wx_S3 dX9_wires_8 zPS_X9_in zLk_X9_116 (Nat.le_of_ble_eq_true rfl) (Or.inr rfl) ?_
  refine s_X9_in _ _ _ ?_
  refine wx_r1 ?_
  refine wx_neb (tgt := 17) dX9_wires_11 (by decide) (fun h11 => ?_) (fun h11 => ?_)
  · skip
    exact (hb (by assumption)).elim
  · skip
    refine wx_ldc dX9_wires_14 zKc_X9_163 ?_
    refine wx_iret dX9_wires_16 rfl rfl (Or.inl rfl) ?_
    exact hK
theorem s_X9_joined_0 {d : Nat} {K : List Value → zS → Prop} {mm : zM} {g : Nat → Nat → Int} {L : Int} {n : Nat} (hO : zOg g L n) (hM : zMd g L n mm) (hg5 : ∀ t i, n ≤ i → g t i = 5000) (hK : ∀ m2 : zM, zFm mm m2 → K [.int (zi (zT3 g 3 - zTs g n - (zBj g L n).1))] (zG m2))  : wm (d + 6) mX9_joined [.ref 128, .int 0] (zG mm) K := by
  refine wm_of2 (L0 := [some (.ref 128), some (.int 0), none]) zCm_X9_joined (Or.inl rfl) (Nat.le_of_ble_eq_true rfl) rfl ?_
  refine wx_iload_n (i := 1) dX9_joined_0 rfl rfl ?_
  refine wx_iconst (v := 0) dX9_joined_1 (by decide) ?_
  refine wx_iconst (v := 2) dX9_joined_2 (by decide) ?_
  refine wx_S3 dX9_joined_3 zPS_X9_in zLk_X9_116 (Nat.le_of_ble_eq_true rfl) (Or.inr rfl) ?_
  refine s_X9_in _ _ _ ?_
  refine wx_r1 ?_
  refine wx_neb (tgt := 12) dX9_joined_6 (by decide) (fun h6 => ?_) (fun h6 => ?_)
  · skip
    refine wx_aload_n (i := 0) dX9_joined_12 rfl rfl ?_
    refine wx_V0 dX9_joined_13 zPV_X9_joins zLk_X9_158 rfl (Nat.le_of_ble_eq_true rfl) (Nat.le_of_ble_eq_true rfl) (Or.inr rfl) ?_
    refine s_X9_joins hO hM hg5 (fun m2 hf hR hb1 hb2 => ?_)
    refine wx_r1 ?_
    refine wx_istore_n (i := 2) dX9_joined_16 rfl (Nat.le_of_ble_eq_true rfl) rfl ?_
    refine wx_iload_n (i := 1) dX9_joined_17 rfl rfl ?_
    refine wx_if_ne (tgt := 25) dX9_joined_18 (by decide) (fun h18 => ?_) (fun h18 => ?_)
    · exact absurd rfl h18 --end
    · skip
      refine wx_iload_n (i := 2) dX9_joined_21 rfl rfl ?_
      refine wx_goto (tgt := 31) dX9_joined_22 (by decide) ?_
      refine wx_iret dX9_joined_31 rfl rfl (Or.inl rfl) ?_
      exact hK m2 hf
  · exact absurd (show (0 : Int32) ≤ 0 ∧ (0 : Int32) ≤ 2 by decide) h6 --end
theorem s_X9_joined_k {d : Nat} {K : List Value → zS → Prop} {mm : zM} {g : Nat → Nat → Int} {L : Int} {n : Nat} (hO : zOg g L n) (hM : zMd g L n mm) (hg5 : ∀ t i, n ≤ i → g t i = 5000) {t : Nat} (ht : 1 ≤ t ∧ t ≤ 2) (hK : ∀ m2 : zM, zFm mm m2 → K [.int (zi (zSh g L n t))] (zG m2))  : wm (d + 6) mX9_joined [.ref 128, .int (nI t)] (zG mm) K := by
  refine wm_of2 (L0 := [some (.ref 128), some (.int (nI t)), none]) zCm_X9_joined (Or.inl rfl) (Nat.le_of_ble_eq_true rfl) rfl ?_
  refine wx_iload_n (i := 1) dX9_joined_0 rfl rfl ?_
  refine wx_iconst (v := 0) dX9_joined_1 (by decide) ?_
  refine wx_iconst (v := 2) dX9_joined_2 (by decide) ?_
  refine wx_S3 dX9_joined_3 zPS_X9_in zLk_X9_116 (Nat.le_of_ble_eq_true rfl) (Or.inr rfl) ?_
  refine s_X9_in _ _ _ ?_
  refine wx_r1 ?_
  refine wx_neb (tgt := 12) dX9_joined_6 (by decide) (fun h6 => ?_) (fun h6 => ?_)
  · skip
    refine wx_aload_n (i := 0) dX9_joined_12 rfl rfl ?_
    refine wx_V0 dX9_joined_13 zPV_X9_joins zLk_X9_158 rfl (Nat.le_of_ble_eq_true rfl) (Nat.le_of_ble_eq_true rfl) (Or.inr rfl) ?_
    refine s_X9_joins hO hM hg5 (fun m2 hf hR hb1 hb2 => ?_)
    refine wx_r1 ?_
    refine wx_istore_n (i := 2) dX9_joined_16 rfl (Nat.le_of_ble_eq_true rfl) rfl ?_
    refine wx_iload_n (i := 1) dX9_joined_17 rfl rfl ?_
    refine wx_if_ne (tgt := 25) dX9_joined_18 (by decide) (fun h18 => ?_) (fun h18 => ?_)
    · skip
      refine wx_aload_n (i := 0) dX9_joined_25 rfl rfl ?_
      refine wx_getRG (k := 128) (t := 145) dX9_joined_26 zF_X9_77 zKo_128 rfl (Nat.le_of_ble_eq_true rfl) zRf_128_26 ?_
      refine wx_iload_n (i := 1) dX9_joined_29 rfl rfl ?_
      refine wx_ialdG (k := 145) dX9_joined_30 zK_145 (Nat.le_of_ble_eq_true rfl) rfl ?_ ?_
      · exact ⟨by omega, by decide⟩
      refine wx_iret dX9_joined_31 rfl rfl (Or.inl rfl) ?_
      refine zki (hK m2 hf) ?_
      rcases (by omega : t = 1 ∨ t = 2) with rfl | rfl
      · rw [zSh_1]; exact hb1.symm
      · rw [zSh_2]; exact hb2.symm
    · rw [zl_0, zi_nI, zi_eq (by omega) (by omega)] at h18
      exact absurd h18 (by omega) --end
  · exact absurd (show (0 : Int32) ≤ nI t ∧ nI t ≤ 2 from by rw [zl_0, zl_2, zi_nI, zi_le (by omega) (by omega), zi_le (by omega) (by omega)]; omega) h6 --end
theorem s_X9_step_ok {d : Nat} {K : List Value → zS → Prop} {mm : zM} {g : Nat → Nat → Int} {L : Int} {n : Nat} (hO : zOg g L n) (hM : zMd g L n mm) (hg5 : ∀ t i, n ≤ i → g t i = 5000) {i : Nat} (ht : i < n) (k1 : 0 ≤ nI i ∧ nI i ≤ mm 128 0 - 2) (hK : ∀ m2 : zM, zFm mm m2 → K [.int (zi (zFd g L n i))] (zG m2))  : wm (d + 6) mX9_step [.ref 128, .int (nI i)] (zG mm) K := by
  refine wm_of2 (L0 := [some (.ref 128), some (.int (nI i))]) zCm_X9_step (Or.inl rfl) (Nat.le_of_ble_eq_true rfl) rfl ?_
  refine wx_iload_n (i := 1) dX9_step_0 rfl rfl ?_
  refine wx_iconst (v := 0) dX9_step_1 (by decide) ?_
  refine wx_aload_n (i := 0) dX9_step_2 rfl rfl ?_
  refine wx_getIG (k := 128) dX9_step_3 zF_X9_7 zKo_128 rfl (Nat.le_of_ble_eq_true rfl) ?_
  refine wx_iconst (v := 2) dX9_step_6 (by decide) ?_
  refine wx_isub dX9_step_7 ?_
  refine wx_S3 dX9_step_8 zPS_X9_in zLk_X9_116 (Nat.le_of_ble_eq_true rfl) (Or.inr rfl) ?_
  refine s_X9_in _ _ _ ?_
  refine wx_r1 ?_
  refine wx_neb (tgt := 18) dX9_step_11 (by decide) (fun h11 => ?_) (fun h11 => ?_)
  · skip
    refine wx_aload_n (i := 0) dX9_step_18 rfl rfl ?_
    refine wx_V0 dX9_step_19 zPV_X9_joins zLk_X9_158 rfl (Nat.le_of_ble_eq_true rfl) (Nat.le_of_ble_eq_true rfl) (Or.inr rfl) ?_
    refine s_X9_joins hO hM hg5 (fun m2 hf hR hb1 hb2 => ?_)
    refine wx_r1 ?_
    refine wx_pop dX9_step_22 rfl ?_
    refine wx_aload_n (i := 0) dX9_step_23 rfl rfl ?_
    refine wx_iload_n (i := 1) dX9_step_24 rfl rfl ?_
    refine wx_V1 dX9_step_25 zPV_X9_dropped zLk_X9_155 rfl (Nat.le_of_ble_eq_true rfl) (Nat.le_of_ble_eq_true rfl) (Or.inr rfl) ?_
    refine s_X9_dropped (zOk_sh hO) hR (by have := hO.2.2; omega) ?_
    refine wx_r1 ?_
    refine wx_pop dX9_step_28 rfl ?_
    refine wx_aload_n (i := 0) dX9_step_29 rfl rfl ?_
    refine wx_getIG (k := 128) dX9_step_30 zF_X9_149 zKo_128 rfl (Nat.le_of_ble_eq_true rfl) ?_
    refine wx_iret dX9_step_33 rfl rfl (Or.inl rfl) ?_
    rw [zU_same]
    exact hK _ (zFm_U hf)
  · contradiction --end
theorem s_X9_profile_ok {d : Nat} {K : List Value → zS → Prop} {mm : zM} {g : Nat → Nat → Int} {L : Int} {n : Nat} (hO : zOg g L n) (hM : zMd g L n mm) (hg5 : ∀ t i, n ≤ i → g t i = 5000) {z : Nat} (ht : z ≤ n) (k1 : 0 ≤ nI z ∧ nI z ≤ mm 128 0 - 1) (hK : ∀ m2 : zM, zFm mm m2 → K [.int (zi (zPv (zFd g L n) z))] (zG m2))  : wm (d + 6) mX9_profile [.ref 128, .int (nI z)] (zG mm) K := by
  refine wm_of2 (L0 := [some (.ref 128), some (.int (nI z))]) zCm_X9_profile (Or.inl rfl) (Nat.le_of_ble_eq_true rfl) rfl ?_
  refine wx_aload_n (i := 0) dX9_profile_0 rfl rfl ?_
  refine wx_iload_n (i := 1) dX9_profile_1 rfl rfl ?_
  refine wx_V1 dX9_profile_2 zPV_X9_isZone zLk_X9_130 rfl (Nat.le_of_ble_eq_true rfl) (Nat.le_of_ble_eq_true rfl) (Or.inr rfl) ?_
  refine s_X9_isZone _ ?_
  refine wx_r1 ?_
  refine wx_neb (tgt := 11) dX9_profile_5 (by decide) (fun h5 => ?_) (fun h5 => ?_)
  · skip
    refine wx_aload_n (i := 0) dX9_profile_11 rfl rfl ?_
    refine wx_V0 dX9_profile_12 zPV_X9_joins zLk_X9_158 rfl (Nat.le_of_ble_eq_true rfl) (Nat.le_of_ble_eq_true rfl) (Or.inr rfl) ?_
    refine s_X9_joins hO hM hg5 (fun m2 hf hR hb1 hb2 => ?_)
    refine wx_r1 ?_
    refine wx_pop dX9_profile_15 rfl ?_
    refine wx_aload_n (i := 0) dX9_profile_16 rfl rfl ?_
    refine wx_iload_n (i := 1) dX9_profile_17 rfl rfl ?_
    refine wx_V1 dX9_profile_18 zPV_X9_profileOf zLk_X9_164 rfl (Nat.le_of_ble_eq_true rfl) (Nat.le_of_ble_eq_true rfl) (Or.inr rfl) ?_
    refine s_X9_profileOf (zOk_sh hO) hR (by have := hO.2.2; omega) (fun m3 hf3 => ?_)
    refine wx_r1 ?_
    refine wx_iret dX9_profile_21 rfl rfl (Or.inl rfl) ?_
    exact hK m3 (zF7_fm hf hf3)
  · contradiction --end
theorem s_X9_wires_off {d : Nat} {K : List Value → zS → Prop} {mm : zM} {g : Nat → Nat → Int} {L : Int} {n : Nat} {wi wj : Nat → Nat} {wv : Nat → Int} {q : Nat} (hO : zOg g L n) (hM : zMd g L n mm) (hg5 : ∀ t i, n ≤ i → g t i = 5000) (hW : zWO n wi wj wv q) (hC : zWM wi wj wv q mm) {k : Nat} (hk : k < q) (k1 : 0 ≤ nI (k + 3) ∧ nI (k + 3) ≤ 2 + mm 128 8) (hK : ∀ m2 : zM, zFm mm m2 → K [.int (zi (zOf (zFd g L n) wi wj wv k))] (zG m2))  : wm (d + 6) mX9_wires [.ref 128, .int (nI (k + 3))] (zG mm) K := by
  refine wm_of2 (L0 := [some (.ref 128), some (.int (nI (k + 3))), none, none, none, none]) zCm_X9_wires (Or.inl rfl) (Nat.le_of_ble_eq_true rfl) rfl ?_
  refine wx_iload_n (i := 1) dX9_wires_0 rfl rfl ?_
  refine wx_iconst (v := 0) dX9_wires_1 (by decide) ?_
  refine wx_iconst (v := 2) dX9_wires_2 (by decide) ?_
  refine wx_aload_n (i := 0) dX9_wires_3 rfl rfl ?_
  refine wx_getIG (k := 128) dX9_wires_4 zF_X9_110 zKo_128 rfl (Nat.le_of_ble_eq_true rfl) ?_
  refine wx_iadd dX9_wires_7 ?_
  refine wx_S3 dX9_wires_8 zPS_X9_in zLk_X9_116 (Nat.le_of_ble_eq_true rfl) (Or.inr rfl) ?_
  refine s_X9_in _ _ _ ?_
  refine wx_r1 ?_
  refine wx_neb (tgt := 17) dX9_wires_11 (by decide) (fun h11 => ?_) (fun h11 => ?_)
  · skip
    refine wx_aload_n (i := 0) dX9_wires_17 rfl rfl ?_
    refine wx_V0 dX9_wires_18 zPV_X9_joins zLk_X9_158 rfl (Nat.le_of_ble_eq_true rfl) (Nat.le_of_ble_eq_true rfl) (Or.inr rfl) ?_
    refine s_X9_joins hO hM hg5 (fun m2 hf hR hb1 hb2 => ?_)
    refine wx_r1 ?_
    refine wx_pop dX9_wires_21 rfl ?_
    refine wx_iload_n (i := 1) dX9_wires_22 rfl rfl ?_
    refine wx_iconst (v := 2) dX9_wires_23 (by decide) ?_
    refine wx_icmp_le (tgt := 35) dX9_wires_24 (by decide) (fun h24 => ?_) (fun h24 => ?_)
    · have hq := hW.1
      rw [zl_2, zi_nI, zi_le (by omega) (by omega)] at h24
      exact absurd h24 (by omega) --end
    · skip
      refine wx_aload_n (i := 0) dX9_wires_27 rfl rfl ?_
      refine wx_iload_n (i := 1) dX9_wires_28 rfl rfl ?_
      refine wx_iconst (v := 3) dX9_wires_29 (by decide) ?_
      refine wx_isub dX9_wires_30 ?_
      refine wx_V1 dX9_wires_31 zPV_X9_offOf zLk_X9_167 rfl (Nat.le_of_ble_eq_true rfl) (Nat.le_of_ble_eq_true rfl) (Or.inr rfl) ?_
      rw [show nI (k + 3) - 3 = nI k from by rw [zl_3, zi_nI, zi_nI, zi_sub]; exact congrArg zi (by omega)]
      refine s_X9_offOf hO hR hW (zWM_fm hC hf) hk (fun m3 hf3 => ?_)
      refine wx_r1 ?_
      refine wx_iret dX9_wires_34 rfl rfl (Or.inl rfl) ?_
      exact hK m3 (zF7_fm hf hf3)
  · contradiction --end
theorem lp_mof {d : Nat} {K : List Value → zS → Prop} {mm : zM} {g : Nat → Nat → Int} {L : Int} {n : Nat} {wi wj : Nat → Nat} {wv : Nat → Int} {q : Nat} {v : Int32} (hO : zOg g L n) (hW : zWO n wi wj wv q) (hC : zWM wi wj wv q mm) (hK : ∀ m2 : zM, zFm mm m2 → K [.int (zi (zWn (zFd g L n) L wi wj wv v q))] (zG m2))  : ∀ (c i : Nat) (m1 : zM) (y4 y5 : Option Value), i + c = q → (zFm mm m1) → (zMR g (zSh g L n) L m1) → wx (d + 6) mX9_wires 39 [some (.ref 128), some (.int v), some (.int (zi (zWn (zFd g L n) L wi wj wv v i))), some (.int (nI i)), y4, y5] [] (zG m1) K := by
  intro c
  induction c with
  | zero =>
    intro i m1 y4 y5 hi hg hR
    obtain rfl : i = q := by omega
    refine wx_iload_n (i := 3) dX9_wires_39 rfl rfl ?_
    refine wx_aload_n (i := 0) dX9_wires_40 rfl rfl ?_
    refine wx_getIG (k := 128) dX9_wires_41 zF_X9_110 zKo_128 rfl (Nat.le_of_ble_eq_true rfl) ?_
    refine wx_icmp_ge (tgt := 118) dX9_wires_44 (by decide) (fun h44 => ?_) (fun h44 => ?_)
    · skip
      refine wx_iload_n (i := 2) dX9_wires_118 rfl rfl ?_
      refine wx_iret dX9_wires_119 rfl rfl (Or.inl rfl) ?_
      exact hK m1 hg
    · exact absurd (show m1 128 8 ≤ nI i by rw [(zWM_fm hC hg).1]; exact nI_le (Nat.le_refl _) (by have := hW.1; omega)) h44 --end
  | succ c ih =>
    intro i m1 y4 y5 hi hg hR
    have hob := zOf_b (zFd_b (g := g) (L := L) hO) hW hO.2.2.2 (show i < q by omega)
    have hwi := (hW.2 i (by omega)).1
    have hLb := hO.2
    have hmb : 0 ≤ L * ((wj i : Int) - (wi i : Int)) ∧ L * ((wj i : Int) - (wi i : Int)) ≤ 50 * 15 := zBx ⟨by omega, by omega⟩ ⟨by omega, by omega⟩
    refine wx_iload_n (i := 3) dX9_wires_39 rfl rfl ?_
    refine wx_aload_n (i := 0) dX9_wires_40 rfl rfl ?_
    refine wx_getIG (k := 128) dX9_wires_41 zF_X9_110 zKo_128 rfl (Nat.le_of_ble_eq_true rfl) ?_
    refine wx_icmp_ge (tgt := 118) dX9_wires_44 (by decide) (fun h44 => ?_) (fun h44 => ?_)
    · exact absurd (show m1 128 8 ≤ nI i from h44) (by rw [(zWM_fm hC hg).1]; exact nI_ge (by omega) (by have := hW.1; omega)) --end
    · skip
      refine wx_aload_n (i := 0) dX9_wires_47 rfl rfl ?_
      refine wx_iload_n (i := 3) dX9_wires_48 rfl rfl ?_
      refine wx_V1 dX9_wires_49 zPV_X9_offOf zLk_X9_167 rfl (Nat.le_of_ble_eq_true rfl) (Nat.le_of_ble_eq_true rfl) (Or.inr rfl) ?_
      refine s_X9_offOf hO hR hW (zWM_fm hC hg) (show i < q by omega) (fun m2 hf2 => ?_)
      have hR2 := zMR_f7 hR hf2
      have hC2 := zWM_fm hC (zF7_fm hg hf2)
      refine wx_r1 ?_
      refine wx_istore dX9_wires_52 (Nat.le_of_ble_eq_true rfl) rfl ?_
      refine wx_iload dX9_wires_54 rfl ?_
      refine wx_ldc dX9_wires_56 zKc_X9_162 ?_
      refine wx_icmp_ne (tgt := 65) dX9_wires_58 (by decide) (fun h58 => ?_) (fun h58 => ?_)
      · rw [zl_1000000, zi_eq (by omega) (by omega)] at h58
        
        refine wx_iload dX9_wires_65 rfl ?_
        refine wx_S1 dX9_wires_67 zPS_X9_size zLk_X9_145 (Nat.le_of_ble_eq_true rfl) (Or.inr rfl) ?_
        refine s_X9_size _ ?_
        refine wx_r1 ?_
        refine wx_aload_n (i := 0) dX9_wires_70 rfl rfl ?_
        refine wx_getIG (k := 128) dX9_wires_71 zF_X9_32 zKo_128 rfl (Nat.le_of_ble_eq_true rfl) ?_
        refine wx_aload_n (i := 0) dX9_wires_74 rfl rfl ?_
        refine wx_getRG (k := 128) (t := 133) dX9_wires_75 zF_X9_38 zKo_128 rfl (Nat.le_of_ble_eq_true rfl) zRf_128_10 ?_
        refine wx_iload_n (i := 3) dX9_wires_78 rfl rfl ?_
        refine wx_ialdG (k := 133) dX9_wires_79 zK_133 (Nat.le_of_ble_eq_true rfl) rfl ?_ ?_
        · exact ⟨by have := hW.1; omega, by decide⟩
        refine wx_aload_n (i := 0) dX9_wires_80 rfl rfl ?_
        refine wx_getRG (k := 128) (t := 132) dX9_wires_81 zF_X9_35 zKo_128 rfl (Nat.le_of_ble_eq_true rfl) zRf_128_9 ?_
        refine wx_iload_n (i := 3) dX9_wires_84 rfl rfl ?_
        refine wx_ialdG (k := 132) dX9_wires_85 zK_132 (Nat.le_of_ble_eq_true rfl) rfl ?_ ?_
        · exact ⟨by have := hW.1; omega, by decide⟩
        refine wx_isub dX9_wires_86 ?_
        refine wx_imul dX9_wires_87 ?_
        refine wx_icmp_gt (tgt := 95) dX9_wires_88 (by decide) (fun h88 => ?_) (fun h88 => ?_)
        · rw [(hR2.2.2), (hC2.2 i (by omega)).2.1, (hC2.2 i (by omega)).1, zi_nI, zi_nI, zi_sub, zi_mul, zsz (by omega), zi_lt (by omega) (by omega)] at h88
          have hkd : zKd (zFd g L n) L wi wj wv i = 1 := by unfold zKd; rw [if_neg h58, if_neg (by omega)]
          refine wx_iconst (v := 1) dX9_wires_95 (by decide) ?_
          refine wx_istore dX9_wires_96 (Nat.le_of_ble_eq_true rfl) rfl ?_
          refine wx_iload_n (i := 2) dX9_wires_98 rfl rfl ?_
          refine wx_iload dX9_wires_99 rfl ?_
          refine wx_iload_n (i := 1) dX9_wires_101 rfl rfl ?_
          refine wx_icmp_ne (tgt := 109) dX9_wires_102 (by decide) (fun h102 => ?_) (fun h102 => ?_)
          · have hd : zi (zWn (zFd g L n) L wi wj wv v i) + 0 = zi (zWn (zFd g L n) L wi wj wv v (i + 1)) := by rw [zWn_n (by rw [hkd]; exact h102), zl_0, zi_add]; exact congrArg zi (by omega)
            refine wx_iconst (v := 0) dX9_wires_109 (by decide) ?_
            refine wx_iadd dX9_wires_110 ?_
            refine wx_istore_n (i := 2) dX9_wires_111 rfl (Nat.le_of_ble_eq_true rfl) rfl ?_
            refine wx_inc (c := 1) dX9_wires_112 rfl (by decide) (Nat.le_of_ble_eq_true rfl) rfl ?_
            refine wx_goto (tgt := 39) dX9_wires_115 (by decide) ?_
            rw [nI_1, hd]
            exact ih (i + 1) m2 _ _ (by omega) (zF7_fm hg hf2) hR2
          · have hd : zi (zWn (zFd g L n) L wi wj wv v i) + 1 = zi (zWn (zFd g L n) L wi wj wv v (i + 1)) := by rw [zWn_y (by rw [hkd]; exact h102), zl_1, zi_add]
            refine wx_iconst (v := 1) dX9_wires_105 (by decide) ?_
            refine wx_goto (tgt := 110) dX9_wires_106 (by decide) ?_
            refine wx_iadd dX9_wires_110 ?_
            refine wx_istore_n (i := 2) dX9_wires_111 rfl (Nat.le_of_ble_eq_true rfl) rfl ?_
            refine wx_inc (c := 1) dX9_wires_112 rfl (by decide) (Nat.le_of_ble_eq_true rfl) rfl ?_
            refine wx_goto (tgt := 39) dX9_wires_115 (by decide) ?_
            rw [nI_1, hd]
            exact ih (i + 1) m2 _ _ (by omega) (zF7_fm hg hf2) hR2
        · rw [(hR2.2.2), (hC2.2 i (by omega)).2.1, (hC2.2 i (by omega)).1, zi_nI, zi_nI, zi_sub, zi_mul, zsz (by omega), zi_lt (by omega) (by omega)] at h88
          have hkd : zKd (zFd g L n) L wi wj wv i = 0 := by unfold zKd; rw [if_neg h58, if_pos (by omega)]
          refine wx_iconst (v := 0) dX9_wires_91 (by decide) ?_
          refine wx_goto (tgt := 96) dX9_wires_92 (by decide) ?_
          refine wx_istore dX9_wires_96 (Nat.le_of_ble_eq_true rfl) rfl ?_
          refine wx_iload_n (i := 2) dX9_wires_98 rfl rfl ?_
          refine wx_iload dX9_wires_99 rfl ?_
          refine wx_iload_n (i := 1) dX9_wires_101 rfl rfl ?_
          refine wx_icmp_ne (tgt := 109) dX9_wires_102 (by decide) (fun h102 => ?_) (fun h102 => ?_)
          · have hd : zi (zWn (zFd g L n) L wi wj wv v i) + 0 = zi (zWn (zFd g L n) L wi wj wv v (i + 1)) := by rw [zWn_n (by rw [hkd]; exact h102), zl_0, zi_add]; exact congrArg zi (by omega)
            refine wx_iconst (v := 0) dX9_wires_109 (by decide) ?_
            refine wx_iadd dX9_wires_110 ?_
            refine wx_istore_n (i := 2) dX9_wires_111 rfl (Nat.le_of_ble_eq_true rfl) rfl ?_
            refine wx_inc (c := 1) dX9_wires_112 rfl (by decide) (Nat.le_of_ble_eq_true rfl) rfl ?_
            refine wx_goto (tgt := 39) dX9_wires_115 (by decide) ?_
            rw [nI_1, hd]
            exact ih (i + 1) m2 _ _ (by omega) (zF7_fm hg hf2) hR2
          · have hd : zi (zWn (zFd g L n) L wi wj wv v i) + 1 = zi (zWn (zFd g L n) L wi wj wv v (i + 1)) := by rw [zWn_y (by rw [hkd]; exact h102), zl_1, zi_add]
            refine wx_iconst (v := 1) dX9_wires_105 (by decide) ?_
            refine wx_goto (tgt := 110) dX9_wires_106 (by decide) ?_
            refine wx_iadd dX9_wires_110 ?_
            refine wx_istore_n (i := 2) dX9_wires_111 rfl (Nat.le_of_ble_eq_true rfl) rfl ?_
            refine wx_inc (c := 1) dX9_wires_112 rfl (by decide) (Nat.le_of_ble_eq_true rfl) rfl ?_
            refine wx_goto (tgt := 39) dX9_wires_115 (by decide) ?_
            rw [nI_1, hd]
            exact ih (i + 1) m2 _ _ (by omega) (zF7_fm hg hf2) hR2
      · rw [zl_1000000, zi_eq (by omega) (by omega)] at h58
        have hkd : zKd (zFd g L n) L wi wj wv i = 2 := by unfold zKd; rw [if_pos h58]
        refine wx_iconst (v := 2) dX9_wires_61 (by decide) ?_
        refine wx_goto (tgt := 96) dX9_wires_62 (by decide) ?_
        refine wx_istore dX9_wires_96 (Nat.le_of_ble_eq_true rfl) rfl ?_
        refine wx_iload_n (i := 2) dX9_wires_98 rfl rfl ?_
        refine wx_iload dX9_wires_99 rfl ?_
        refine wx_iload_n (i := 1) dX9_wires_101 rfl rfl ?_
        refine wx_icmp_ne (tgt := 109) dX9_wires_102 (by decide) (fun h102 => ?_) (fun h102 => ?_)
        · have hd : zi (zWn (zFd g L n) L wi wj wv v i) + 0 = zi (zWn (zFd g L n) L wi wj wv v (i + 1)) := by rw [zWn_n (by rw [hkd]; exact h102), zl_0, zi_add]; exact congrArg zi (by omega)
          refine wx_iconst (v := 0) dX9_wires_109 (by decide) ?_
          refine wx_iadd dX9_wires_110 ?_
          refine wx_istore_n (i := 2) dX9_wires_111 rfl (Nat.le_of_ble_eq_true rfl) rfl ?_
          refine wx_inc (c := 1) dX9_wires_112 rfl (by decide) (Nat.le_of_ble_eq_true rfl) rfl ?_
          refine wx_goto (tgt := 39) dX9_wires_115 (by decide) ?_
          rw [nI_1, hd]
          exact ih (i + 1) m2 _ _ (by omega) (zF7_fm hg hf2) hR2
        · have hd : zi (zWn (zFd g L n) L wi wj wv v i) + 1 = zi (zWn (zFd g L n) L wi wj wv v (i + 1)) := by rw [zWn_y (by rw [hkd]; exact h102), zl_1, zi_add]
          refine wx_iconst (v := 1) dX9_wires_105 (by decide) ?_
          refine wx_goto (tgt := 110) dX9_wires_106 (by decide) ?_
          refine wx_iadd dX9_wires_110 ?_
          refine wx_istore_n (i := 2) dX9_wires_111 rfl (Nat.le_of_ble_eq_true rfl) rfl ?_
          refine wx_inc (c := 1) dX9_wires_112 rfl (by decide) (Nat.le_of_ble_eq_true rfl) rfl ?_
          refine wx_goto (tgt := 39) dX9_wires_115 (by decide) ?_
          rw [nI_1, hd]
          exact ih (i + 1) m2 _ _ (by omega) (zF7_fm hg hf2) hR2
theorem s_X9_wires_many {d : Nat} {K : List Value → zS → Prop} {mm : zM} {g : Nat → Nat → Int} {L : Int} {n : Nat} {wi wj : Nat → Nat} {wv : Nat → Int} {q : Nat} (hO : zOg g L n) (hM : zMd g L n mm) (hg5 : ∀ t i, n ≤ i → g t i = 5000) (hW : zWO n wi wj wv q) (hC : zWM wi wj wv q mm) {v : Int32} (k0 : v ≤ 2) (k1 : 0 ≤ v ∧ v ≤ 2 + mm 128 8) (hK : ∀ m2 : zM, zFm mm m2 → K [.int (zi (zWn (zFd g L n) L wi wj wv v q))] (zG m2))  : wm (d + 6) mX9_wires [.ref 128, .int v] (zG mm) K := by
  refine wm_of2 (L0 := [some (.ref 128), some (.int v), none, none, none, none]) zCm_X9_wires (Or.inl rfl) (Nat.le_of_ble_eq_true rfl) rfl ?_
  refine wx_iload_n (i := 1) dX9_wires_0 rfl rfl ?_
  refine wx_iconst (v := 0) dX9_wires_1 (by decide) ?_
  refine wx_iconst (v := 2) dX9_wires_2 (by decide) ?_
  refine wx_aload_n (i := 0) dX9_wires_3 rfl rfl ?_
  refine wx_getIG (k := 128) dX9_wires_4 zF_X9_110 zKo_128 rfl (Nat.le_of_ble_eq_true rfl) ?_
  refine wx_iadd dX9_wires_7 ?_
  refine wx_S3 dX9_wires_8 zPS_X9_in zLk_X9_116 (Nat.le_of_ble_eq_true rfl) (Or.inr rfl) ?_
  refine s_X9_in _ _ _ ?_
  refine wx_r1 ?_
  refine wx_neb (tgt := 17) dX9_wires_11 (by decide) (fun h11 => ?_) (fun h11 => ?_)
  · skip
    refine wx_aload_n (i := 0) dX9_wires_17 rfl rfl ?_
    refine wx_V0 dX9_wires_18 zPV_X9_joins zLk_X9_158 rfl (Nat.le_of_ble_eq_true rfl) (Nat.le_of_ble_eq_true rfl) (Or.inr rfl) ?_
    refine s_X9_joins hO hM hg5 (fun m2 hf hR hb1 hb2 => ?_)
    refine wx_r1 ?_
    refine wx_pop dX9_wires_21 rfl ?_
    refine wx_iload_n (i := 1) dX9_wires_22 rfl rfl ?_
    refine wx_iconst (v := 2) dX9_wires_23 (by decide) ?_
    refine wx_icmp_le (tgt := 35) dX9_wires_24 (by decide) (fun h24 => ?_) (fun h24 => ?_)
    · skip
      refine wx_iconst (v := 0) dX9_wires_35 (by decide) ?_
      refine wx_istore_n (i := 2) dX9_wires_36 rfl (Nat.le_of_ble_eq_true rfl) rfl ?_
      refine wx_iconst (v := 0) dX9_wires_37 (by decide) ?_
      refine wx_istore_n (i := 3) dX9_wires_38 rfl (Nat.le_of_ble_eq_true rfl) rfl ?_
      exact lp_mof hO hW hC hK q 0 m2 _ _ (by omega) hf hR
    · exact absurd k0 h24 --end
  · contradiction --end
