/-! plan and work of the reference -/
noncomputable def zWkM (n t : Nat) (f : Nat → Nat) (k : Nat) (mm : zM) : Nat → zM
  | 0 => mm
  | z + 1 => if 0 < f z then zDoM (zWkM n t f k mm z) n z t (nI (f z)) (k + zCnt f z) else zWkM n t f k mm z
theorem zWkM_y {n t : Nat} {f : Nat → Nat} {k : Nat} {mm : zM} {z : Nat} (h : 0 < f z) : zWkM n t f k mm (z + 1) = zDoM (zWkM n t f k mm z) n z t (nI (f z)) (k + zCnt f z) := if_pos h
theorem zWkM_n {n t : Nat} {f : Nat → Nat} {k : Nat} {mm : zM} {z : Nat} (h : ¬ 0 < f z) : zWkM n t f k mm (z + 1) = zWkM n t f k mm z := if_neg h
theorem zDoM_out {mm : zM} {n z t : Nat} {m : Int32} {k c : Nat} (h : c ≠ 128 ∧ c ≠ 129 ∧ c ≠ 136 ∧ c ≠ 137 ∧ c ≠ 138 ∧ c ≠ 139) : zDoM mm n z t m k c = mm c := by
  unfold zDoM
  rw [zU_ne (by omega), zU_ne (by omega), zU_ne (by omega), zU_ne (by omega)]
  unfold zStM va_up
  rw [if_neg (by omega), if_neg (by omega)]
theorem zDoM_128 {mm : zM} {n z t : Nat} {m : Int32} {k j : Nat} (h : j ≠ 14) : zDoM mm n z t m k 128 j = mm 128 j := by
  unfold zDoM
  rw [zU_off (by omega), zU_ne (by omega), zU_ne (by omega), zU_ne (by omega)]
  unfold zStM va_up
  rw [if_neg (by omega), if_neg (by omega)]
theorem zDoM_14 {mm : zM} {n z t : Nat} {m : Int32} {k : Nat} : zDoM mm n z t m k 128 14 = nI (k + 1) := by
  unfold zDoM
  rw [zU_same]
theorem zWkM_out {n t : Nat} {f : Nat → Nat} {k : Nat} {mm : zM} {c : Nat} (h : c ≠ 128 ∧ c ≠ 129 ∧ c ≠ 136 ∧ c ≠ 137 ∧ c ≠ 138 ∧ c ≠ 139) : ∀ z, zWkM n t f k mm z c = mm c
  | 0 => rfl
  | z + 1 => by
    by_cases q : 0 < f z
    · rw [zWkM_y q, zDoM_out h]; exact zWkM_out h z
    · rw [zWkM_n q]; exact zWkM_out h z
theorem zWkM_128 {n t : Nat} {f : Nat → Nat} {k : Nat} {mm : zM} {j : Nat} (h : j ≠ 14) : ∀ z, zWkM n t f k mm z 128 j = mm 128 j
  | 0 => rfl
  | z + 1 => by
    by_cases q : 0 < f z
    · rw [zWkM_y q, zDoM_128 h]; exact zWkM_128 h z
    · rw [zWkM_n q]; exact zWkM_128 h z
theorem zWkM_14 {n t : Nat} {f : Nat → Nat} {k : Nat} {mm : zM} (h0 : mm 128 14 = nI k) : ∀ z, zWkM n t f k mm z 128 14 = nI (k + zCnt f z)
  | 0 => h0
  | z + 1 => by
    by_cases q : 0 < f z
    · rw [zWkM_y q, zDoM_14, zCnt_y q]; rfl
    · rw [zWkM_n q, zCnt_n q]; exact zWkM_14 h0 z
theorem s_X9_plan_bad {d : Nat} {K : List Value → zS → Prop} {mm : zM} {a b : Int32} (hb : ¬ ((0 ≤ a ∧ a ≤ 2) ∧ (-1 ≤ b ∧ b ≤ mm 128 0 - 1))) (hK : K [.int (-1)] (zG mm)) : wm (d + 4) mX9_plan [.ref 128, .int a, .int b] (zG mm) K := by
  refine wm_of2 (L0 := [some (.ref 128), some (.int a), some (.int b), none]) zCm_X9_plan (Or.inl rfl) (Nat.le_of_ble_eq_true rfl) rfl ?_
  refine wx_iload_n (i := 1) dX9_plan_0 rfl rfl ?_
  refine wx_iconst (v := 0) dX9_plan_1 (by decide) ?_
  refine wx_iconst (v := 2) dX9_plan_2 (by decide) ?_
  refine wx_S3 dX9_plan_3 zPS_X9_in zLk_X9_116 (Nat.le_of_ble_eq_true rfl) (Or.inr rfl) ?_
  refine s_X9_in _ _ _ ?_
  refine wx_r1 ?_
  refine wx_eqb (tgt := 23) dX9_plan_6 (by decide) (fun h6 => ?_) (fun h6 => ?_)
  · skip
    refine wx_iconst (v := (-1)) dX9_plan_23 (by decide) ?_
    refine wx_iret dX9_plan_24 rfl rfl (Or.inl rfl) ?_
    exact hK
  · skip
    refine wx_iload_n (i := 2) dX9_plan_9 rfl rfl ?_
    refine wx_iconst (v := (-1)) dX9_plan_10 (by decide) ?_
    refine wx_aload_n (i := 0) dX9_plan_11 rfl rfl ?_
    refine wx_getIG (k := 128) dX9_plan_12 zF_X9_7 zKo_128 rfl (Nat.le_of_ble_eq_true rfl) ?_
    refine wx_iconst (v := 1) dX9_plan_15 (by decide) ?_
    refine wx_isub dX9_plan_16 ?_
    refine wx_S3 dX9_plan_17 zPS_X9_in zLk_X9_116 (Nat.le_of_ble_eq_true rfl) (Or.inr rfl) ?_
    refine s_X9_in _ _ _ ?_
    refine wx_r1 ?_
    refine wx_neb (tgt := 25) dX9_plan_20 (by decide) (fun h20 => ?_) (fun h20 => ?_)
    · skip
      exact (hb ⟨by assumption, by assumption⟩).elim
    · skip
      refine wx_iconst (v := (-1)) dX9_plan_23 (by decide) ?_
      refine wx_iret dX9_plan_24 rfl rfl (Or.inl rfl) ?_
      exact hK
theorem s_X9_work_bad {d : Nat} {K : List Value → zS → Prop} {mm : zM} {a : Int32} (hb : ¬ ((0 ≤ a ∧ a ≤ 2))) (hK : K [.int (-1)] (zG mm)) : wm (d + 4) mX9_work [.ref 128, .int a] (zG mm) K := by
  refine wm_of2 (L0 := [some (.ref 128), some (.int a), none, none]) zCm_X9_work (Or.inl rfl) (Nat.le_of_ble_eq_true rfl) rfl ?_
  refine wx_iload_n (i := 1) dX9_work_0 rfl rfl ?_
  refine wx_iconst (v := 0) dX9_work_1 (by decide) ?_
  refine wx_iconst (v := 2) dX9_work_2 (by decide) ?_
  refine wx_S3 dX9_work_3 zPS_X9_in zLk_X9_116 (Nat.le_of_ble_eq_true rfl) (Or.inr rfl) ?_
  refine s_X9_in _ _ _ ?_
  refine wx_r1 ?_
  refine wx_neb (tgt := 11) dX9_work_6 (by decide) (fun h6 => ?_) (fun h6 => ?_)
  · skip
    exact (hb (by assumption)).elim
  · skip
    refine wx_iconst (v := (-1)) dX9_work_9 (by decide) ?_
    refine wx_iret dX9_work_10 rfl rfl (Or.inl rfl) ?_
    exact hK
theorem s_X9_plan_all {d : Nat} {K : List Value → zS → Prop} {mm : zM} {n t : Nat} {h p : Nat → Int32} {r : Int32} (hzn : mm 128 0 = nI n) (hn : 4 ≤ n ∧ n ≤ 16) (ht : t < 3) (hh : mm 129 = h) (hp : zPm mm t = p) (hr : mm 128 13 = r) (k1 : 0 ≤ nI t ∧ nI t ≤ 2) (k2 : (-1 : Int32) ≤ -1 ∧ -1 ≤ mm 128 0 - 1) (hK : ∀ m2 : zM, zFpl mm m2 → K [.int (if zCo n h p r (n + 2) 0 < 1000 then nI (zCo n h p r (n + 2) 0) else -4)] (zG m2))  : wm (d + 4) mX9_plan [.ref 128, .int (nI t), .int (-1)] (zG mm) K := by
  refine wm_of2 (L0 := [some (.ref 128), some (.int (nI t)), some (.int (-1)), none]) zCm_X9_plan (Or.inl rfl) (Nat.le_of_ble_eq_true rfl) rfl ?_
  refine wx_iload_n (i := 1) dX9_plan_0 rfl rfl ?_
  refine wx_iconst (v := 0) dX9_plan_1 (by decide) ?_
  refine wx_iconst (v := 2) dX9_plan_2 (by decide) ?_
  refine wx_S3 dX9_plan_3 zPS_X9_in zLk_X9_116 (Nat.le_of_ble_eq_true rfl) (Or.inr rfl) ?_
  refine s_X9_in _ _ _ ?_
  refine wx_r1 ?_
  refine wx_eqb (tgt := 23) dX9_plan_6 (by decide) (fun h6 => ?_) (fun h6 => ?_)
  · contradiction --end
  · skip
    refine wx_iload_n (i := 2) dX9_plan_9 rfl rfl ?_
    refine wx_iconst (v := (-1)) dX9_plan_10 (by decide) ?_
    refine wx_aload_n (i := 0) dX9_plan_11 rfl rfl ?_
    refine wx_getIG (k := 128) dX9_plan_12 zF_X9_7 zKo_128 rfl (Nat.le_of_ble_eq_true rfl) ?_
    refine wx_iconst (v := 1) dX9_plan_15 (by decide) ?_
    refine wx_isub dX9_plan_16 ?_
    refine wx_S3 dX9_plan_17 zPS_X9_in zLk_X9_116 (Nat.le_of_ble_eq_true rfl) (Or.inr rfl) ?_
    refine s_X9_in _ _ _ ?_
    refine wx_r1 ?_
    refine wx_neb (tgt := 25) dX9_plan_20 (by decide) (fun h20 => ?_) (fun h20 => ?_)
    · skip
      refine wx_aload_n (i := 0) dX9_plan_25 rfl rfl ?_
      refine wx_iload_n (i := 1) dX9_plan_26 rfl rfl ?_
      refine wx_V1 dX9_plan_27 zPV_X9_plans zLk_X9_195 rfl (Nat.le_of_ble_eq_true rfl) (Nat.le_of_ble_eq_true rfl) (Or.inr rfl) ?_
      refine s_X9_plans hzn hn ht hh hp hr (fun m2 hf hm => ?_)
      refine wx_r1 ?_
      refine wx_istore_n (i := 3) dX9_plan_30 rfl (Nat.le_of_ble_eq_true rfl) rfl ?_
      refine wx_iload_n (i := 3) dX9_plan_31 rfl rfl ?_
      refine wx_ldc dX9_plan_32 zKc_X9_162 ?_
      refine wx_icmp_lt (tgt := 42) dX9_plan_34 (by decide) (fun h34 => ?_) (fun h34 => ?_)
      · have hc : zCo n h p r (n + 2) 0 < 1000 := Decidable.byContradiction fun w => by
          rw [if_neg w] at h34
          exact absurd h34 (by decide)
        rw [if_pos hc]
        refine wx_iload_n (i := 2) dX9_plan_42 rfl rfl ?_
        refine wx_if_ge (tgt := 50) dX9_plan_43 (by decide) (fun h43 => ?_) (fun h43 => ?_)
        · exact absurd h43 (by decide) --end
        · skip
          refine wx_iload_n (i := 3) dX9_plan_46 rfl rfl ?_
          refine wx_goto (tgt := 56) dX9_plan_47 (by decide) ?_
          refine wx_iret dX9_plan_56 rfl rfl (Or.inl rfl) ?_
          first | exact zki (hK m2 hf) (if_pos hc) | exact zki (hK m2 hf) (if_neg hc)
      · have hc : ¬ zCo n h p r (n + 2) 0 < 1000 := fun w => h34 (by rw [if_pos w, zl_1000000, zi_nI, zi_lt (by omega) (by omega)]; omega)
        refine wx_bipush (v := (-4)) dX9_plan_37 (by decide) ?_
        refine wx_goto (tgt := 56) dX9_plan_39 (by decide) ?_
        refine wx_iret dX9_plan_56 rfl rfl (Or.inl rfl) ?_
        first | exact zki (hK m2 hf) (if_pos hc) | exact zki (hK m2 hf) (if_neg hc)
    · contradiction --end
theorem s_X9_plan_one {d : Nat} {K : List Value → zS → Prop} {mm : zM} {n t : Nat} {h p : Nat → Int32} {r : Int32} (hzn : mm 128 0 = nI n) (hn : 4 ≤ n ∧ n ≤ 16) (ht : t < 3) (hh : mm 129 = h) (hp : zPm mm t = p) (hr : mm 128 13 = r) {z : Nat} (hz : z < n) (k1 : 0 ≤ nI t ∧ nI t ≤ 2) (k2 : -1 ≤ nI z ∧ nI z ≤ mm 128 0 - 1) (hK : ∀ m2 : zM, zFpl mm m2 → K [.int (if zCo n h p r (n + 2) 0 < 1000 then nI (zPmi n h p r z) else -4)] (zG m2))  : wm (d + 4) mX9_plan [.ref 128, .int (nI t), .int (nI z)] (zG mm) K := by
  refine wm_of2 (L0 := [some (.ref 128), some (.int (nI t)), some (.int (nI z)), none]) zCm_X9_plan (Or.inl rfl) (Nat.le_of_ble_eq_true rfl) rfl ?_
  refine wx_iload_n (i := 1) dX9_plan_0 rfl rfl ?_
  refine wx_iconst (v := 0) dX9_plan_1 (by decide) ?_
  refine wx_iconst (v := 2) dX9_plan_2 (by decide) ?_
  refine wx_S3 dX9_plan_3 zPS_X9_in zLk_X9_116 (Nat.le_of_ble_eq_true rfl) (Or.inr rfl) ?_
  refine s_X9_in _ _ _ ?_
  refine wx_r1 ?_
  refine wx_eqb (tgt := 23) dX9_plan_6 (by decide) (fun h6 => ?_) (fun h6 => ?_)
  · contradiction --end
  · skip
    refine wx_iload_n (i := 2) dX9_plan_9 rfl rfl ?_
    refine wx_iconst (v := (-1)) dX9_plan_10 (by decide) ?_
    refine wx_aload_n (i := 0) dX9_plan_11 rfl rfl ?_
    refine wx_getIG (k := 128) dX9_plan_12 zF_X9_7 zKo_128 rfl (Nat.le_of_ble_eq_true rfl) ?_
    refine wx_iconst (v := 1) dX9_plan_15 (by decide) ?_
    refine wx_isub dX9_plan_16 ?_
    refine wx_S3 dX9_plan_17 zPS_X9_in zLk_X9_116 (Nat.le_of_ble_eq_true rfl) (Or.inr rfl) ?_
    refine s_X9_in _ _ _ ?_
    refine wx_r1 ?_
    refine wx_neb (tgt := 25) dX9_plan_20 (by decide) (fun h20 => ?_) (fun h20 => ?_)
    · skip
      refine wx_aload_n (i := 0) dX9_plan_25 rfl rfl ?_
      refine wx_iload_n (i := 1) dX9_plan_26 rfl rfl ?_
      refine wx_V1 dX9_plan_27 zPV_X9_plans zLk_X9_195 rfl (Nat.le_of_ble_eq_true rfl) (Nat.le_of_ble_eq_true rfl) (Or.inr rfl) ?_
      refine s_X9_plans hzn hn ht hh hp hr (fun m2 hf hm => ?_)
      refine wx_r1 ?_
      refine wx_istore_n (i := 3) dX9_plan_30 rfl (Nat.le_of_ble_eq_true rfl) rfl ?_
      refine wx_iload_n (i := 3) dX9_plan_31 rfl rfl ?_
      refine wx_ldc dX9_plan_32 zKc_X9_162 ?_
      refine wx_icmp_lt (tgt := 42) dX9_plan_34 (by decide) (fun h34 => ?_) (fun h34 => ?_)
      · have hc : zCo n h p r (n + 2) 0 < 1000 := Decidable.byContradiction fun w => by
          rw [if_neg w] at h34
          exact absurd h34 (by decide)
        rw [if_pos hc]
        refine wx_iload_n (i := 2) dX9_plan_42 rfl rfl ?_
        refine wx_if_ge (tgt := 50) dX9_plan_43 (by decide) (fun h43 => ?_) (fun h43 => ?_)
        · skip
          refine wx_aload_n (i := 0) dX9_plan_50 rfl rfl ?_
          refine wx_getRG (k := 128) (t := 147) dX9_plan_51 zF_X9_83 zKo_128 rfl (Nat.le_of_ble_eq_true rfl) zRf_128_29 ?_
          refine wx_iload_n (i := 2) dX9_plan_54 rfl rfl ?_
          refine wx_ialdG (k := 147) dX9_plan_55 zK_147 (Nat.le_of_ble_eq_true rfl) rfl ?_ ?_
          · exact ⟨by omega, by decide⟩
          refine wx_iret dX9_plan_56 rfl rfl (Or.inl rfl) ?_
          first | exact zki (hK m2 hf) (by rw [if_pos hc]; exact (hm hc z hz).symm) | exact zki (hK m2 hf) (if_neg hc)
        · rw [show (0 : Int32) = nI 0 from rfl, nI_leI (by omega) (by omega)] at h43
          exact absurd (Nat.zero_le z) h43 --end
      · have hc : ¬ zCo n h p r (n + 2) 0 < 1000 := fun w => h34 (by rw [if_pos w, zl_1000000, zi_nI, zi_lt (by omega) (by omega)]; omega)
        refine wx_bipush (v := (-4)) dX9_plan_37 (by decide) ?_
        refine wx_goto (tgt := 56) dX9_plan_39 (by decide) ?_
        refine wx_iret dX9_plan_56 rfl rfl (Or.inl rfl) ?_
        first | exact zki (hK m2 hf) (by rw [if_pos hc]; exact (hm hc z hz).symm) | exact zki (hK m2 hf) (if_neg hc)
    · contradiction --end
theorem s_X9_work_no {d : Nat} {K : List Value → zS → Prop} {mm : zM} {n t : Nat} {h p : Nat → Int32} {r : Int32} (hzn : mm 128 0 = nI n) (hn : 4 ≤ n ∧ n ≤ 16) (ht : t < 3) (hh : mm 129 = h) (hp : zPm mm t = p) (hr : mm 128 13 = r) (k1 : 0 ≤ nI t ∧ nI t ≤ 2) (hc : ¬ zCo n h p r (n + 2) 0 < 1000) (hK : ∀ m2 : zM, zFpl mm m2 → K [.int (-2)] (zG m2))  : wm (d + 4) mX9_work [.ref 128, .int (nI t)] (zG mm) K := by
  refine wm_of2 (L0 := [some (.ref 128), some (.int (nI t)), none, none]) zCm_X9_work (Or.inl rfl) (Nat.le_of_ble_eq_true rfl) rfl ?_
  refine wx_iload_n (i := 1) dX9_work_0 rfl rfl ?_
  refine wx_iconst (v := 0) dX9_work_1 (by decide) ?_
  refine wx_iconst (v := 2) dX9_work_2 (by decide) ?_
  refine wx_S3 dX9_work_3 zPS_X9_in zLk_X9_116 (Nat.le_of_ble_eq_true rfl) (Or.inr rfl) ?_
  refine s_X9_in _ _ _ ?_
  refine wx_r1 ?_
  refine wx_neb (tgt := 11) dX9_work_6 (by decide) (fun h6 => ?_) (fun h6 => ?_)
  · skip
    refine wx_aload_n (i := 0) dX9_work_11 rfl rfl ?_
    refine wx_iload_n (i := 1) dX9_work_12 rfl rfl ?_
    refine wx_V1 dX9_work_13 zPV_X9_plans zLk_X9_195 rfl (Nat.le_of_ble_eq_true rfl) (Nat.le_of_ble_eq_true rfl) (Or.inr rfl) ?_
    refine s_X9_plans hzn hn ht hh hp hr (fun m2 hf hm => ?_)
    refine wx_r1 ?_
    refine wx_ldc dX9_work_16 zKc_X9_162 ?_
    refine wx_icmp_lt (tgt := 24) dX9_work_18 (by decide) (fun h18 => ?_) (fun h18 => ?_)
    · rw [if_neg hc] at h18
      exact absurd h18 (by decide) --end
    · skip
      refine wx_bipush (v := (-2)) dX9_work_21 (by decide) ?_
      refine wx_iret dX9_work_23 rfl rfl (Or.inl rfl) ?_
      exact hK m2 hf
  · exact absurd k1 h6 --end
theorem lp_mw1 {d : Nat} {K : List Value → zS → Prop} {mm : zM} {n t : Nat} {h p : Nat → Int32} {r : Int32} (hzn : mm 128 0 = nI n) (hn : 4 ≤ n ∧ n ≤ 16) (hm : ∀ z, z < n → mm 147 z = nI (zPmi n h p r z)) (hK : wx (d + 3) mX9_work 59 [some (.ref 128), some (.int (nI t)), some (.int (nI (zCnt (zPmi n h p r) n))), some (.int (nI n))] [] (zG mm) K)  : ∀ (c i : Nat) , i + c = n →  wx (d + 3) mX9_work 28 [some (.ref 128), some (.int (nI t)), some (.int (nI (zCnt (zPmi n h p r) i))), some (.int (nI i))] [] (zG mm) K := by
  intro c
  induction c with
  | zero =>
    intro i  hi 
    obtain rfl : i = n := by omega
    refine wx_iload_n (i := 3) dX9_work_28 rfl rfl ?_
    refine wx_aload_n (i := 0) dX9_work_29 rfl rfl ?_
    refine wx_getIG (k := 128) dX9_work_30 zF_X9_7 zKo_128 rfl (Nat.le_of_ble_eq_true rfl) ?_
    refine wx_icmp_ge (tgt := 59) dX9_work_33 (by decide) (fun h33 => ?_) (fun h33 => ?_)
    · skip
      exact hK
    · exact absurd (show mm 128 0 ≤ nI i by rw [hzn]; exact nI_le (Nat.le_refl _) (by omega)) h33 --end
  | succ c ih =>
    intro i  hi 
    refine wx_iload_n (i := 3) dX9_work_28 rfl rfl ?_
    refine wx_aload_n (i := 0) dX9_work_29 rfl rfl ?_
    refine wx_getIG (k := 128) dX9_work_30 zF_X9_7 zKo_128 rfl (Nat.le_of_ble_eq_true rfl) ?_
    refine wx_icmp_ge (tgt := 59) dX9_work_33 (by decide) (fun h33 => ?_) (fun h33 => ?_)
    · exact absurd (show mm 128 0 ≤ nI i from h33) (by rw [hzn]; exact nI_ge (by omega) (by omega)) --end
    · skip
      refine wx_iload_n (i := 2) dX9_work_36 rfl rfl ?_
      refine wx_aload_n (i := 0) dX9_work_37 rfl rfl ?_
      refine wx_getRG (k := 128) (t := 147) dX9_work_38 zF_X9_83 zKo_128 rfl (Nat.le_of_ble_eq_true rfl) zRf_128_29 ?_
      refine wx_iload_n (i := 3) dX9_work_41 rfl rfl ?_
      refine wx_ialdG (k := 147) dX9_work_42 zK_147 (Nat.le_of_ble_eq_true rfl) rfl ?_ ?_
      · exact ⟨by omega, by decide⟩
      rw [hm i (by omega)]
      refine wx_if_le (tgt := 50) dX9_work_43 (by decide) (fun h43 => ?_) (fun h43 => ?_)
      · rw [nI_nle0 (by have := zSel_le n h p r i (zPst n h p r i); unfold zPmi; omega)] at h43
        have e1 := zCnt_n (f := (zPmi n h p r)) (z := i) (by omega)
        refine wx_iconst (v := 0) dX9_work_50 (by decide) ?_
        refine wx_iadd dX9_work_51 ?_
        refine wx_istore_n (i := 2) dX9_work_52 rfl (Nat.le_of_ble_eq_true rfl) rfl ?_
        refine wx_inc (c := 1) dX9_work_53 rfl (by decide) (Nat.le_of_ble_eq_true rfl) rfl ?_
        refine wx_goto (tgt := 28) dX9_work_56 (by decide) ?_
        have e := ih (i + 1) (by omega)
        rw [e1] at e
        first | (rw [nI_1, nI_1]; exact e) | (rw [nI_1, show nI (zCnt (zPmi n h p r) i) + 0 = nI (zCnt (zPmi n h p r) i) from nI_add _ 0]; exact e)
      · rw [nI_nle0 (by have := zSel_le n h p r i (zPst n h p r i); unfold zPmi; omega)] at h43
        have e1 := zCnt_y (f := (zPmi n h p r)) (z := i) (by omega)
        refine wx_iconst (v := 1) dX9_work_46 (by decide) ?_
        refine wx_goto (tgt := 51) dX9_work_47 (by decide) ?_
        refine wx_iadd dX9_work_51 ?_
        refine wx_istore_n (i := 2) dX9_work_52 rfl (Nat.le_of_ble_eq_true rfl) rfl ?_
        refine wx_inc (c := 1) dX9_work_53 rfl (by decide) (Nat.le_of_ble_eq_true rfl) rfl ?_
        refine wx_goto (tgt := 28) dX9_work_56 (by decide) ?_
        have e := ih (i + 1) (by omega)
        rw [e1] at e
        first | (rw [nI_1, nI_1]; exact e) | (rw [nI_1, show nI (zCnt (zPmi n h p r) i) + 0 = nI (zCnt (zPmi n h p r) i) from nI_add _ 0]; exact e)
theorem s_X9_work_full {d : Nat} {K : List Value → zS → Prop} {mm : zM} {n t : Nat} {h p : Nat → Int32} {r : Int32} (hzn : mm 128 0 = nI n) (hn : 4 ≤ n ∧ n ≤ 16) (ht : t < 3) (hh : mm 129 = h) (hp : zPm mm t = p) (hr : mm 128 13 = r) {k : Nat} (hk : mm 128 14 = nI k) (hk6 : k ≤ 60) (k1 : 0 ≤ nI t ∧ nI t ≤ 2) (hc : zCo n h p r (n + 2) 0 < 1000) (hfull : 60 < k + zCnt (zPmi n h p r) n) (hK : ∀ m2 : zM, zFpl mm m2 → K [.int (-3)] (zG m2))  : wm (d + 4) mX9_work [.ref 128, .int (nI t)] (zG mm) K := by
  refine wm_of2 (L0 := [some (.ref 128), some (.int (nI t)), none, none]) zCm_X9_work (Or.inl rfl) (Nat.le_of_ble_eq_true rfl) rfl ?_
  refine wx_iload_n (i := 1) dX9_work_0 rfl rfl ?_
  refine wx_iconst (v := 0) dX9_work_1 (by decide) ?_
  refine wx_iconst (v := 2) dX9_work_2 (by decide) ?_
  refine wx_S3 dX9_work_3 zPS_X9_in zLk_X9_116 (Nat.le_of_ble_eq_true rfl) (Or.inr rfl) ?_
  refine s_X9_in _ _ _ ?_
  refine wx_r1 ?_
  refine wx_neb (tgt := 11) dX9_work_6 (by decide) (fun h6 => ?_) (fun h6 => ?_)
  · skip
    refine wx_aload_n (i := 0) dX9_work_11 rfl rfl ?_
    refine wx_iload_n (i := 1) dX9_work_12 rfl rfl ?_
    refine wx_V1 dX9_work_13 zPV_X9_plans zLk_X9_195 rfl (Nat.le_of_ble_eq_true rfl) (Nat.le_of_ble_eq_true rfl) (Or.inr rfl) ?_
    refine s_X9_plans hzn hn ht hh hp hr (fun m2 hf hm => ?_)
    refine wx_r1 ?_
    refine wx_ldc dX9_work_16 zKc_X9_162 ?_
    refine wx_icmp_lt (tgt := 24) dX9_work_18 (by decide) (fun h18 => ?_) (fun h18 => ?_)
    · skip
      refine wx_iconst (v := 0) dX9_work_24 (by decide) ?_
      refine wx_istore_n (i := 2) dX9_work_25 rfl (Nat.le_of_ble_eq_true rfl) rfl ?_
      refine wx_iconst (v := 0) dX9_work_26 (by decide) ?_
      refine wx_istore_n (i := 3) dX9_work_27 rfl (Nat.le_of_ble_eq_true rfl) rfl ?_
      refine lp_mw1 (d := d + 1) (by rw [hf 128 (by decide) (by decide)]; exact hzn) hn (hm hc) ?_ n 0 (by omega)
      refine wx_aload_n (i := 0) dX9_work_59 rfl rfl ?_
      refine wx_getIG (k := 128) dX9_work_60 zF_X9_113 zKo_128 rfl (Nat.le_of_ble_eq_true rfl) ?_
      refine wx_iload_n (i := 2) dX9_work_63 rfl rfl ?_
      refine wx_iadd dX9_work_64 ?_
      rw [hf 128 (by decide) (by decide), hk, nI_add]
      refine wx_bipush (v := 60) dX9_work_65 (by decide) ?_
      refine wx_icmp_le (tgt := 73) dX9_work_67 (by decide) (fun h67 => ?_) (fun h67 => ?_)
      · exact absurd (show nI (k + zCnt (zPmi n h p r) n) ≤ nI 60 from h67) (nI_ge hfull (by have := zCnt_le (zPmi n h p r) n; omega)) --end
      · skip
        refine wx_bipush (v := (-3)) dX9_work_70 (by decide) ?_
        refine wx_iret dX9_work_72 rfl rfl (Or.inl rfl) ?_
        exact hK m2 hf
    · exact absurd (show (if zCo n h p r (n + 2) 0 < 1000 then nI (zCo n h p r (n + 2) 0) else 1000000) < (1000000 : Int32) by rw [if_pos hc, zl_1000000, zi_nI, zi_lt (by omega) (by omega)]; omega) h18 --end
  · exact absurd k1 h6 --end
theorem lp_mw2 {d : Nat} {K : List Value → zS → Prop} {m2 : zM} {n t k q : Nat} {h p : Nat → Int32} {r : Int32} (ht : t < 3) (hn : 4 ≤ n ∧ n ≤ 16) (hzn : m2 128 0 = nI n) (hk : m2 128 14 = nI k) (h60 : k + zCnt (zPmi n h p r) n ≤ 60) (hm : ∀ z, z < n → m2 147 z = nI (zPmi n h p r z)) (hK : K [.int (nI q)] (zG (zWkM n t (zPmi n h p r) k m2 n)))  : ∀ (c i : Nat) , i + c = n →  wx (d + 3) mX9_work 75 [some (.ref 128), some (.int (nI t)), some (.int (nI q)), some (.int (nI i))] [] (zG (zWkM n t (zPmi n h p r) k m2 i)) K := by
  intro c
  induction c with
  | zero =>
    intro i  hi 
    obtain rfl : i = n := by omega
    refine wx_iload_n (i := 3) dX9_work_75 rfl rfl ?_
    refine wx_aload_n (i := 0) dX9_work_76 rfl rfl ?_
    refine wx_getIG (k := 128) dX9_work_77 zF_X9_7 zKo_128 rfl (Nat.le_of_ble_eq_true rfl) ?_
    refine wx_icmp_ge (tgt := 110) dX9_work_80 (by decide) (fun h80 => ?_) (fun h80 => ?_)
    · skip
      refine wx_iload_n (i := 2) dX9_work_110 rfl rfl ?_
      refine wx_iret dX9_work_111 rfl rfl (Or.inl rfl) ?_
      exact hK
    · exact absurd (show zWkM i t (zPmi i h p r) k m2 i 128 0 ≤ nI i by rw [zWkM_128 (by omega), hzn]; exact nI_le (Nat.le_refl _) (by omega)) h80 --end
  | succ c ih =>
    intro i  hi 
    have hle1 : k + zCnt (zPmi n h p r) (i + 1) ≤ 60 := by have := zCnt_mono (zPmi n h p r) (show i + 1 ≤ n by omega); omega
    have hf5 : zPmi n h p r i ≤ 5 := zSel_le _ _ _ _ _ _
    refine wx_iload_n (i := 3) dX9_work_75 rfl rfl ?_
    refine wx_aload_n (i := 0) dX9_work_76 rfl rfl ?_
    refine wx_getIG (k := 128) dX9_work_77 zF_X9_7 zKo_128 rfl (Nat.le_of_ble_eq_true rfl) ?_
    refine wx_icmp_ge (tgt := 110) dX9_work_80 (by decide) (fun h80 => ?_) (fun h80 => ?_)
    · exact absurd (show zWkM n t (zPmi n h p r) k m2 i 128 0 ≤ nI i from h80) (by rw [zWkM_128 (by omega), hzn]; exact nI_ge (by omega) (by omega)) --end
    · skip
      refine wx_aload_n (i := 0) dX9_work_83 rfl rfl ?_
      refine wx_getRG (k := 128) (t := 147) dX9_work_84 zF_X9_83 zKo_128 rfl (Nat.le_of_ble_eq_true rfl) zRf_128_29 ?_
      refine wx_iload_n (i := 3) dX9_work_87 rfl rfl ?_
      refine wx_ialdG (k := 147) dX9_work_88 zK_147 (Nat.le_of_ble_eq_true rfl) rfl ?_ ?_
      · exact ⟨by omega, by decide⟩
      rw [zWkM_out (by omega), hm i (by omega)]
      refine wx_if_le (tgt := 104) dX9_work_89 (by decide) (fun h89 => ?_) (fun h89 => ?_)
      · rw [nI_nle0 (by omega)] at h89
        have e1 := zWkM_n (n := n) (t := t) (k := k) (mm := m2) (f := (zPmi n h p r)) (z := i) (by omega)
        rw [← e1]
        refine wx_inc (c := 1) dX9_work_104 rfl (by decide) (Nat.le_of_ble_eq_true rfl) rfl ?_
        refine wx_goto (tgt := 75) dX9_work_107 (by decide) ?_
        rw [nI_1]
        exact ih (i + 1) (by omega)
      · rw [nI_nle0 (by omega)] at h89
        refine wx_aload_n (i := 0) dX9_work_92 rfl rfl ?_
        refine wx_iload_n (i := 1) dX9_work_93 rfl rfl ?_
        refine wx_iload_n (i := 3) dX9_work_94 rfl rfl ?_
        refine wx_aload_n (i := 0) dX9_work_95 rfl rfl ?_
        refine wx_getRG (k := 128) (t := 147) dX9_work_96 zF_X9_83 zKo_128 rfl (Nat.le_of_ble_eq_true rfl) zRf_128_29 ?_
        refine wx_iload_n (i := 3) dX9_work_99 rfl rfl ?_
        refine wx_ialdG (k := 147) dX9_work_100 zK_147 (Nat.le_of_ble_eq_true rfl) rfl ?_ ?_
        · exact ⟨by omega, by decide⟩
        rw [zWkM_out (by omega), hm i (by omega)]
        refine wx_V3 dX9_work_101 zPV_X9_lays zLk_X9_175 rfl (Nat.le_of_ble_eq_true rfl) (Nat.le_of_ble_eq_true rfl) (Or.inr rfl) ?_
        refine s_X9_lays hn (show i < n by omega) ht (by rw [zWkM_128 (by omega)]; exact hzn) (k := k + zCnt (zPmi n h p r) i) (by rw [zCnt_y (by omega)] at hle1; omega) (zWkM_14 hk i) ?_
        rw [← zWkM_y (by omega)]
        refine wx_r0 ?_
        refine wx_inc (c := 1) dX9_work_104 rfl (by decide) (Nat.le_of_ble_eq_true rfl) rfl ?_
        refine wx_goto (tgt := 75) dX9_work_107 (by decide) ?_
        rw [nI_1]
        exact ih (i + 1) (by omega)
theorem s_X9_work_ok {d : Nat} {K : List Value → zS → Prop} {mm : zM} {n t : Nat} {h p : Nat → Int32} {r : Int32} (hzn : mm 128 0 = nI n) (hn : 4 ≤ n ∧ n ≤ 16) (ht : t < 3) (hh : mm 129 = h) (hp : zPm mm t = p) (hr : mm 128 13 = r) {k : Nat} (hk : mm 128 14 = nI k) (k1 : 0 ≤ nI t ∧ nI t ≤ 2) (hc : zCo n h p r (n + 2) 0 < 1000) (hfull : k + zCnt (zPmi n h p r) n ≤ 60) (hK : ∀ m2 : zM, zFpl mm m2 → K [.int (nI (zCnt (zPmi n h p r) n))] (zG (zWkM n t (zPmi n h p r) k m2 n)))  : wm (d + 4) mX9_work [.ref 128, .int (nI t)] (zG mm) K := by
  refine wm_of2 (L0 := [some (.ref 128), some (.int (nI t)), none, none]) zCm_X9_work (Or.inl rfl) (Nat.le_of_ble_eq_true rfl) rfl ?_
  refine wx_iload_n (i := 1) dX9_work_0 rfl rfl ?_
  refine wx_iconst (v := 0) dX9_work_1 (by decide) ?_
  refine wx_iconst (v := 2) dX9_work_2 (by decide) ?_
  refine wx_S3 dX9_work_3 zPS_X9_in zLk_X9_116 (Nat.le_of_ble_eq_true rfl) (Or.inr rfl) ?_
  refine s_X9_in _ _ _ ?_
  refine wx_r1 ?_
  refine wx_neb (tgt := 11) dX9_work_6 (by decide) (fun h6 => ?_) (fun h6 => ?_)
  · skip
    refine wx_aload_n (i := 0) dX9_work_11 rfl rfl ?_
    refine wx_iload_n (i := 1) dX9_work_12 rfl rfl ?_
    refine wx_V1 dX9_work_13 zPV_X9_plans zLk_X9_195 rfl (Nat.le_of_ble_eq_true rfl) (Nat.le_of_ble_eq_true rfl) (Or.inr rfl) ?_
    refine s_X9_plans hzn hn ht hh hp hr (fun m2 hf hm => ?_)
    refine wx_r1 ?_
    refine wx_ldc dX9_work_16 zKc_X9_162 ?_
    refine wx_icmp_lt (tgt := 24) dX9_work_18 (by decide) (fun h18 => ?_) (fun h18 => ?_)
    · skip
      refine wx_iconst (v := 0) dX9_work_24 (by decide) ?_
      refine wx_istore_n (i := 2) dX9_work_25 rfl (Nat.le_of_ble_eq_true rfl) rfl ?_
      refine wx_iconst (v := 0) dX9_work_26 (by decide) ?_
      refine wx_istore_n (i := 3) dX9_work_27 rfl (Nat.le_of_ble_eq_true rfl) rfl ?_
      refine lp_mw1 (d := d + 1) (by rw [hf 128 (by decide) (by decide)]; exact hzn) hn (hm hc) ?_ n 0 (by omega)
      refine wx_aload_n (i := 0) dX9_work_59 rfl rfl ?_
      refine wx_getIG (k := 128) dX9_work_60 zF_X9_113 zKo_128 rfl (Nat.le_of_ble_eq_true rfl) ?_
      refine wx_iload_n (i := 2) dX9_work_63 rfl rfl ?_
      refine wx_iadd dX9_work_64 ?_
      rw [hf 128 (by decide) (by decide), hk, nI_add]
      refine wx_bipush (v := 60) dX9_work_65 (by decide) ?_
      refine wx_icmp_le (tgt := 73) dX9_work_67 (by decide) (fun h67 => ?_) (fun h67 => ?_)
      · skip
        refine wx_iconst (v := 0) dX9_work_73 (by decide) ?_
        refine wx_istore_n (i := 3) dX9_work_74 rfl (Nat.le_of_ble_eq_true rfl) rfl ?_
        exact lp_mw2 (d := d + 1) ht hn (by rw [hf 128 (by decide) (by decide)]; exact hzn) (by rw [hf 128 (by decide) (by decide)]; exact hk) hfull (hm hc) (hK m2 hf) n 0 (by omega)
      · exact absurd (show nI (k + zCnt (zPmi n h p r) n) ≤ nI 60 from nI_le hfull (by omega)) h67 --end
    · exact absurd (show (if zCo n h p r (n + 2) 0 < 1000 then nI (zCo n h p r (n + 2) 0) else 1000000) < (1000000 : Int32) by rw [if_pos hc, zl_1000000, zi_nI, zi_lt (by omega) (by omega)]; omega) h18 --end
  · exact absurd k1 h6 --end
