/-! the bench -/
theorem zl_0 : (0 : Int32) = zi 0 := rfl
theorem zl_1 : (1 : Int32) = zi 1 := rfl
theorem zl_2 : (2 : Int32) = zi 2 := rfl
theorem zl_3 : (3 : Int32) = zi 3 := rfl
theorem zl_4 : (4 : Int32) = zi 4 := rfl
theorem zl_5 : (5 : Int32) = zi 5 := rfl
theorem zl_6 : (6 : Int32) = zi 6 := rfl
theorem zl_7 : (7 : Int32) = zi 7 := rfl
theorem zl_8 : (8 : Int32) = zi 8 := rfl
theorem zl_9 : (9 : Int32) = zi 9 := rfl
theorem zl_10 : (10 : Int32) = zi 10 := rfl
theorem zl_11 : (11 : Int32) = zi 11 := rfl
theorem zl_12 : (12 : Int32) = zi 12 := rfl
theorem zl_13 : (13 : Int32) = zi 13 := rfl
theorem zl_14 : (14 : Int32) = zi 14 := rfl
theorem zl_15 : (15 : Int32) = zi 15 := rfl
theorem zl_16 : (16 : Int32) = zi 16 := rfl
theorem zl_17 : (17 : Int32) = zi 17 := rfl
theorem zl_18 : (18 : Int32) = zi 18 := rfl
theorem zl_19 : (19 : Int32) = zi 19 := rfl
theorem zl_20 : (20 : Int32) = zi 20 := rfl
theorem zl_30 : (30 : Int32) = zi 30 := rfl
theorem zl_50 : (50 : Int32) = zi 50 := rfl
theorem zl_60 : (60 : Int32) = zi 60 := rfl
theorem zl_100 : (100 : Int32) = zi 100 := rfl
theorem zl_101 : (101 : Int32) = zi 101 := rfl
theorem zl_150 : (150 : Int32) = zi 150 := rfl
theorem zl_200 : (200 : Int32) = zi 200 := rfl
theorem zl_216 : (216 : Int32) = zi 216 := rfl
theorem zl_255 : (255 : Int32) = zi 255 := rfl
theorem zl_500 : (500 : Int32) = zi 500 := rfl
theorem zl_999 : (999 : Int32) = zi 999 := rfl
theorem zl_1000 : (1000 : Int32) = zi 1000 := rfl
theorem zl_1296 : (1296 : Int32) = zi 1296 := rfl
theorem zl_2000 : (2000 : Int32) = zi 2000 := rfl
theorem zl_2100 : (2100 : Int32) = zi 2100 := rfl
theorem zl_2101 : (2101 : Int32) = zi 2101 := rfl
theorem zl_5000 : (5000 : Int32) = zi 5000 := rfl
theorem zl_10000 : (10000 : Int32) = zi 10000 := rfl
theorem zl_100000 : (100000 : Int32) = zi 100000 := rfl
theorem zl_1000000 : (1000000 : Int32) = zi 1000000 := rfl
theorem zl_2000000 : (2000000 : Int32) = zi 2000000 := rfl
theorem zm_1 : (-1 : Int32) = zi (-1) := rfl
theorem zm_2 : (-2 : Int32) = zi (-2) := rfl
theorem zm_3 : (-3 : Int32) = zi (-3) := rfl
theorem zm_4 : (-4 : Int32) = zi (-4) := rfl
theorem zm_20 : (-20 : Int32) = zi (-20) := rfl
theorem zm_30 : (-30 : Int32) = zi (-30) := rfl
theorem zm_100 : (-100 : Int32) = zi (-100) := rfl
theorem zm_500 : (-500 : Int32) = zi (-500) := rfl
theorem zm_1000 : (-1000 : Int32) = zi (-1000) := rfl
theorem zm_10000 : (-10000 : Int32) = zi (-10000) := rfl
theorem zm_100000 : (-100000 : Int32) = zi (-100000) := rfl
theorem zm_1000000 : (-1000000 : Int32) = zi (-1000000) := rfl
theorem zm_1000002 : (-1000002 : Int32) = zi (-1000002) := rfl
theorem zm_1000003 : (-1000003 : Int32) = zi (-1000003) := rfl
/-- what a tool pulls at d -/
def zPu (mm : zM) (t : Nat) (x : Int) : Int32 := if -2 ≤ x ∧ x ≤ 2 then mm (20 + 1 + t) (x + 2).toNat else 0
theorem s_X0_heightOf {d : Nat} {K : List Value → zS → Prop} {mm : zM} {z : Nat} (hz : z < 16) (hK : K [.int (mm 18 z)] (zG mm)) : wm (d) mX0_heightOf [.ref 17, .int (nI z)] (zG mm) K := by
  refine wm_of2 (L0 := [some (.ref 17), some (.int (nI z))]) zCm_X0_heightOf (Or.inl rfl) (Nat.le_of_ble_eq_true rfl) rfl ?_
  refine wx_aload_n (i := 0) dX0_heightOf_0 rfl rfl ?_
  refine wx_getRG (k := 17) (t := 18) dX0_heightOf_1 zF_X0_9 zKo_17 rfl (Nat.le_of_ble_eq_true rfl) zRf_17_0 ?_
  refine wx_iload_n (i := 1) dX0_heightOf_4 rfl rfl ?_
  refine wx_ialdG (k := 18) dX0_heightOf_5 zK_18 (Nat.le_of_ble_eq_true rfl) rfl ?_ ?_
  · exact ⟨hz, by decide⟩
  refine wx_iret dX0_heightOf_6 rfl rfl (Or.inl rfl) ?_
  exact hK
theorem s_X0_howMany {d : Nat} {K : List Value → zS → Prop} {mm : zM} (hK : K [.int (mm 17 8)] (zG mm)) : wm (d) mX0_howMany [.ref 17] (zG mm) K := by
  refine wm_of2 (L0 := [some (.ref 17)]) zCm_X0_howMany (Or.inl rfl) (Nat.le_of_ble_eq_true rfl) rfl ?_
  refine wx_aload_n (i := 0) dX0_howMany_0 rfl rfl ?_
  refine wx_getIG (k := 17) dX0_howMany_1 zF_X0_39 zKo_17 rfl (Nat.le_of_ble_eq_true rfl) ?_
  refine wx_iret dX0_howMany_4 rfl rfl (Or.inl rfl) ?_
  exact hK
theorem s_X0_howManyChanges {d : Nat} {K : List Value → zS → Prop} {mm : zM} (hK : K [.int (mm 17 10)] (zG mm)) : wm (d) mX0_howManyChanges [.ref 17] (zG mm) K := by
  refine wm_of2 (L0 := [some (.ref 17)]) zCm_X0_howManyChanges (Or.inl rfl) (Nat.le_of_ble_eq_true rfl) rfl ?_
  refine wx_aload_n (i := 0) dX0_howManyChanges_0 rfl rfl ?_
  refine wx_getIG (k := 17) dX0_howManyChanges_1 zF_X0_45 zKo_17 rfl (Nat.le_of_ble_eq_true rfl) ?_
  refine wx_iret dX0_howManyChanges_4 rfl rfl (Or.inl rfl) ?_
  exact hK
theorem s_X0_howManyZones {d : Nat} {K : List Value → zS → Prop} {mm : zM} (hK : K [.int (mm 17 7)] (zG mm)) : wm (d) mX0_howManyZones [.ref 17] (zG mm) K := by
  refine wm_of2 (L0 := [some (.ref 17)]) zCm_X0_howManyZones (Or.inl rfl) (Nat.le_of_ble_eq_true rfl) rfl ?_
  refine wx_aload_n (i := 0) dX0_howManyZones_0 rfl rfl ?_
  refine wx_getIG (k := 17) dX0_howManyZones_1 zF_X0_35 zKo_17 rfl (Nat.le_of_ble_eq_true rfl) ?_
  refine wx_iret dX0_howManyZones_4 rfl rfl (Or.inl rfl) ?_
  exact hK
theorem s_X0_restOf {d : Nat} {K : List Value → zS → Prop} {mm : zM} (hK : K [.int (mm 17 9)] (zG mm)) : wm (d) mX0_restOf [.ref 17] (zG mm) K := by
  refine wm_of2 (L0 := [some (.ref 17)]) zCm_X0_restOf (Or.inl rfl) (Nat.le_of_ble_eq_true rfl) rfl ?_
  refine wx_aload_n (i := 0) dX0_restOf_0 rfl rfl ?_
  refine wx_getIG (k := 17) dX0_restOf_1 zF_X0_42 zKo_17 rfl (Nat.le_of_ble_eq_true rfl) ?_
  refine wx_iret dX0_restOf_4 rfl rfl (Or.inl rfl) ?_
  exact hK
theorem s_X0_roomLeft {d : Nat} {K : List Value → zS → Prop} {mm : zM} (hK : K [.int (60 - mm 17 8)] (zG mm)) : wm (d) mX0_roomLeft [.ref 17] (zG mm) K := by
  refine wm_of2 (L0 := [some (.ref 17)]) zCm_X0_roomLeft (Or.inl rfl) (Nat.le_of_ble_eq_true rfl) rfl ?_
  refine wx_bipush (v := 60) dX0_roomLeft_0 (by decide) ?_
  refine wx_aload_n (i := 0) dX0_roomLeft_2 rfl rfl ?_
  refine wx_getIG (k := 17) dX0_roomLeft_3 zF_X0_39 zKo_17 rfl (Nat.le_of_ble_eq_true rfl) ?_
  refine wx_isub dX0_roomLeft_6 ?_
  refine wx_iret dX0_roomLeft_7 rfl rfl (Or.inl rfl) ?_
  exact hK
theorem s_X0_keepAsTold {d : Nat} {K : List Value → zS → Prop} {mm : zM} (hK : K [] (zG (zU (zU (va_up mm 19 (va_cpy (mm 18) (mm 19) 0 0 16)) 17 8 0) 17 10 (mm 17 10 + 1)))) : wm (d + 1) mX0_keepAsTold [.ref 17] (zG mm) K := by
  refine wm_of2 (L0 := [some (.ref 17)]) zCm_X0_keepAsTold (Or.inl rfl) (Nat.le_of_ble_eq_true rfl) rfl ?_
  refine wx_aload_n (i := 0) dX0_keepAsTold_0 rfl rfl ?_
  refine wx_getRG (k := 17) (t := 18) dX0_keepAsTold_1 zF_X0_9 zKo_17 rfl (Nat.le_of_ble_eq_true rfl) zRf_17_0 ?_
  refine wx_iconst (v := 0) dX0_keepAsTold_4 (by decide) ?_
  refine wx_aload_n (i := 0) dX0_keepAsTold_5 rfl rfl ?_
  refine wx_getRG (k := 17) (t := 19) dX0_keepAsTold_6 zF_X0_15 zKo_17 rfl (Nat.le_of_ble_eq_true rfl) zRf_17_1 ?_
  refine wx_iconst (v := 0) dX0_keepAsTold_9 (by decide) ?_
  refine wx_bipush (v := 16) dX0_keepAsTold_10 (by decide) ?_
  refine wx_acopyG (x := 0) (y := 0) (z := 16) dX0_keepAsTold_12 zLk_X0_57 zAc_n zAc_s zAc_i zK_18 zK_19 (Nat.le_of_ble_eq_true rfl) (Nat.le_of_ble_eq_true rfl) (by decide) (by decide) (by decide) (by decide) (by decide) (by decide) (by decide) (by decide) (Nat.le_of_ble_eq_true rfl) ?_
  refine wx_aload_n (i := 0) dX0_keepAsTold_15 rfl rfl ?_
  refine wx_iconst (v := 0) dX0_keepAsTold_16 (by decide) ?_
  refine wx_putIG (k := 17) dX0_keepAsTold_17 zF_X0_39 zKo_17 rfl (Nat.le_of_ble_eq_true rfl) rfl rfl ?_
  refine wx_aload_n (i := 0) dX0_keepAsTold_20 rfl rfl ?_
  refine wx_dup dX0_keepAsTold_21 rfl ?_
  refine wx_getIG (k := 17) dX0_keepAsTold_22 zF_X0_45 zKo_17 rfl (Nat.le_of_ble_eq_true rfl) ?_
  refine wx_iconst (v := 1) dX0_keepAsTold_25 (by decide) ?_
  refine wx_iadd dX0_keepAsTold_26 ?_
  refine wx_putIG (k := 17) dX0_keepAsTold_27 zF_X0_45 zKo_17 rfl (Nat.le_of_ble_eq_true rfl) rfl rfl ?_
  refine wx_vret dX0_keepAsTold_30 rfl (Or.inl rfl) ?_
  exact hK
theorem s_X0_tellRest {d : Nat} {K : List Value → zS → Prop} {mm : zM} (v : Int32) (hK : K [.int (mm 17 9)] (zG (zU (zU mm 17 9 v) 17 10 (mm 17 10 + 1)))) : wm (d) mX0_tellRest [.ref 17, .int v] (zG mm) K := by
  refine wm_of2 (L0 := [some (.ref 17), some (.int v), none]) zCm_X0_tellRest (Or.inl rfl) (Nat.le_of_ble_eq_true rfl) rfl ?_
  refine wx_aload_n (i := 0) dX0_tellRest_0 rfl rfl ?_
  refine wx_getIG (k := 17) dX0_tellRest_1 zF_X0_42 zKo_17 rfl (Nat.le_of_ble_eq_true rfl) ?_
  refine wx_istore_n (i := 2) dX0_tellRest_4 rfl (Nat.le_of_ble_eq_true rfl) rfl ?_
  refine wx_aload_n (i := 0) dX0_tellRest_5 rfl rfl ?_
  refine wx_iload_n (i := 1) dX0_tellRest_6 rfl rfl ?_
  refine wx_putIG (k := 17) dX0_tellRest_7 zF_X0_42 zKo_17 rfl (Nat.le_of_ble_eq_true rfl) rfl rfl ?_
  refine wx_aload_n (i := 0) dX0_tellRest_10 rfl rfl ?_
  refine wx_dup dX0_tellRest_11 rfl ?_
  refine wx_getIG (k := 17) dX0_tellRest_12 zF_X0_45 zKo_17 rfl (Nat.le_of_ble_eq_true rfl) ?_
  refine wx_iconst (v := 1) dX0_tellRest_15 (by decide) ?_
  refine wx_iadd dX0_tellRest_16 ?_
  refine wx_putIG (k := 17) dX0_tellRest_17 zF_X0_45 zKo_17 rfl (Nat.le_of_ble_eq_true rfl) rfl rfl ?_
  refine wx_iload_n (i := 2) dX0_tellRest_20 rfl rfl ?_
  refine wx_iret dX0_tellRest_21 rfl rfl (Or.inl rfl) ?_
  exact hK
theorem s_X0_tellHeight {d : Nat} {K : List Value → zS → Prop} {mm : zM} {z : Nat} (v : Int32) (hz : z < 16) (hK : K [.int (mm 18 z)] (zG (zU (zU (va_up (zU mm 18 z v) 19 (va_cpy (zU mm 18 z v 18) (mm 19) 0 0 16)) 17 8 0) 17 10 (mm 17 10 + 1)))) : wm (d + 2) mX0_tellHeight [.ref 17, .int (nI z), .int v] (zG mm) K := by
  refine wm_of2 (L0 := [some (.ref 17), some (.int (nI z)), some (.int v), none]) zCm_X0_tellHeight (Or.inl rfl) (Nat.le_of_ble_eq_true rfl) rfl ?_
  refine wx_aload_n (i := 0) dX0_tellHeight_0 rfl rfl ?_
  refine wx_getRG (k := 17) (t := 18) dX0_tellHeight_1 zF_X0_9 zKo_17 rfl (Nat.le_of_ble_eq_true rfl) zRf_17_0 ?_
  refine wx_iload_n (i := 1) dX0_tellHeight_4 rfl rfl ?_
  refine wx_ialdG (k := 18) dX0_tellHeight_5 zK_18 (Nat.le_of_ble_eq_true rfl) rfl ?_ ?_
  · exact ⟨hz, by decide⟩
  refine wx_istore_n (i := 3) dX0_tellHeight_6 rfl (Nat.le_of_ble_eq_true rfl) rfl ?_
  refine wx_aload_n (i := 0) dX0_tellHeight_7 rfl rfl ?_
  refine wx_getRG (k := 17) (t := 18) dX0_tellHeight_8 zF_X0_9 zKo_17 rfl (Nat.le_of_ble_eq_true rfl) zRf_17_0 ?_
  refine wx_iload_n (i := 1) dX0_tellHeight_11 rfl rfl ?_
  refine wx_iload_n (i := 2) dX0_tellHeight_12 rfl rfl ?_
  refine wx_iastG (k := 18) dX0_tellHeight_13 zK_18 (Nat.le_of_ble_eq_true rfl) rfl ?_ ?_
  · exact ⟨hz, by decide⟩
  refine wx_aload_n (i := 0) dX0_tellHeight_14 rfl rfl ?_
  refine wx_V0 dX0_tellHeight_15 zPV_X0_keepAsTold zLk_X0_54 rfl (Nat.le_of_ble_eq_true rfl) (Nat.le_of_ble_eq_true rfl) (Or.inr rfl) ?_
  refine s_X0_keepAsTold ?_
  refine wx_r0 ?_
  refine wx_iload_n (i := 3) dX0_tellHeight_18 rfl rfl ?_
  refine wx_iret dX0_tellHeight_19 rfl rfl (Or.inl rfl) ?_
  exact hK
theorem s_X0_tellPull {d : Nat} {K : List Value → zS → Prop} {mm : zM} {t e : Nat} (v : Int32) (ht : t < 3) (he : e < 5) (hK : K [.int (mm (20 + 1 + t) e)] (zG (zU (zU mm (20 + 1 + t) e v) 17 10 (mm 17 10 + 1)))) : wm (d) mX0_tellPull [.ref 17, .int (nI t), .int (zi (e - 2)), .int v] (zG mm) K := by
  refine wm_of2 (L0 := [some (.ref 17), some (.int (nI t)), some (.int (zi (e - 2))), some (.int v), none]) zCm_X0_tellPull (Or.inl rfl) (Nat.le_of_ble_eq_true rfl) rfl ?_
  refine wx_aload_n (i := 0) dX0_tellPull_0 rfl rfl ?_
  refine wx_getRG (k := 17) (t := 20) dX0_tellPull_1 zF_X0_20 zKo_17 rfl (Nat.le_of_ble_eq_true rfl) zRf_17_2 ?_
  refine wx_iload_n (i := 1) dX0_tellPull_4 rfl rfl ?_
  refine wx_aaldG (k := 20) dX0_tellPull_5 zK_20 (Nat.le_of_ble_eq_true rfl) rfl ?_ ?_
  · exact ⟨ht, by decide⟩
  refine wx_iload_n (i := 2) dX0_tellPull_6 rfl rfl ?_
  refine wx_iconst (v := 2) dX0_tellPull_7 (by decide) ?_
  refine wx_iadd dX0_tellPull_8 ?_
  refine wx_ialdG (j := e) dX0_tellPull_9 (zKin_20 _ (by omega)) (zKlt_20 _ (by omega)) ?_ ?_ ?_
  · (simp only [zl_2, zi_nI, zi_add, zi_sub, zi_mul] <;> first | done | exact congrArg zi (by omega))
  · exact ⟨he, by decide⟩
  refine wx_istore dX0_tellPull_10 (Nat.le_of_ble_eq_true rfl) rfl ?_
  refine wx_aload_n (i := 0) dX0_tellPull_12 rfl rfl ?_
  refine wx_getRG (k := 17) (t := 20) dX0_tellPull_13 zF_X0_20 zKo_17 rfl (Nat.le_of_ble_eq_true rfl) zRf_17_2 ?_
  refine wx_iload_n (i := 1) dX0_tellPull_16 rfl rfl ?_
  refine wx_aaldG (k := 20) dX0_tellPull_17 zK_20 (Nat.le_of_ble_eq_true rfl) rfl ?_ ?_
  · exact ⟨ht, by decide⟩
  refine wx_iload_n (i := 2) dX0_tellPull_18 rfl rfl ?_
  refine wx_iconst (v := 2) dX0_tellPull_19 (by decide) ?_
  refine wx_iadd dX0_tellPull_20 ?_
  refine wx_iload_n (i := 3) dX0_tellPull_21 rfl rfl ?_
  refine wx_iastG (j := e) dX0_tellPull_22 (zKin_20 _ (by omega)) (zKlt_20 _ (by omega)) ?_ ?_ ?_
  · (simp only [zl_2, zi_nI, zi_add, zi_sub, zi_mul] <;> first | done | exact congrArg zi (by omega))
  · exact ⟨he, by decide⟩
  refine wx_aload_n (i := 0) dX0_tellPull_23 rfl rfl ?_
  refine wx_dup dX0_tellPull_24 rfl ?_
  refine wx_getIG (k := 17) dX0_tellPull_25 zF_X0_45 zKo_17 rfl (Nat.le_of_ble_eq_true rfl) ?_
  refine wx_iconst (v := 1) dX0_tellPull_28 (by decide) ?_
  refine wx_iadd dX0_tellPull_29 ?_
  refine wx_putIG (k := 17) dX0_tellPull_30 zF_X0_45 zKo_17 rfl (Nat.le_of_ble_eq_true rfl) rfl rfl ?_
  refine wx_iload dX0_tellPull_33 rfl ?_
  refine wx_iret dX0_tellPull_35 rfl rfl (Or.inl rfl) ?_
  refine zk (P := fun q => K [.int (mm (20 + 1 + t) e)] (zG (zU (zU mm (20 + 1 + t) e v) 17 10 q))) hK ?_
  exact (congrArg (fun x => x + 1) (zU_off (fun q => by omega))).symm
theorem s_X0_pullOf {d : Nat} {K : List Value → zS → Prop} {mm : zM} {t : Nat} {x : Int} (ht : t < 3) (hx : -1000 ≤ x ∧ x ≤ 1000) (hK : K [.int (zPu mm t x)] (zG mm)) : wm (d + 1) mX0_pullOf [.ref 17, .int (nI t), .int (zi x)] (zG mm) K := by
  refine wm_of2 (L0 := [some (.ref 17), some (.int (nI t)), some (.int (zi x))]) zCm_X0_pullOf (Or.inl rfl) (Nat.le_of_ble_eq_true rfl) rfl ?_
  refine wx_iload_n (i := 2) dX0_pullOf_0 rfl rfl ?_
  refine wx_bipush (v := (-2)) dX0_pullOf_1 (by decide) ?_
  refine wx_iconst (v := 2) dX0_pullOf_3 (by decide) ?_
  refine wx_SN3 dX0_pullOf_4 zPS_X8_within zLn_X0_63 (Nat.le_of_ble_eq_true rfl) (Or.inr rfl) ?_
  refine s_X8_within _ _ _ ?_
  refine wx_r1 ?_
  refine wx_eqb (tgt := 23) dX0_pullOf_7 (by decide) (fun h7 => ?_) (fun h7 => ?_)
  · have h7 : ¬ (-2 ≤ x ∧ x ≤ 2) := fun q => h7 (by rw [zm_2, zi_le (by omega) (by omega), zl_2, zi_le (by omega) (by omega)]; exact q)
    refine wx_iconst (v := 0) dX0_pullOf_23 (by decide) ?_
    refine wx_iret dX0_pullOf_24 rfl rfl (Or.inl rfl) ?_
    first | exact zki hK (if_pos h7) | exact zki hK (if_neg h7)
  · have h7 : -2 ≤ x ∧ x ≤ 2 := by rw [zm_2, zi_le (by omega) (by omega), zl_2, zi_le (by omega) (by omega)] at h7; exact h7
    refine wx_aload_n (i := 0) dX0_pullOf_10 rfl rfl ?_
    refine wx_getRG (k := 17) (t := 20) dX0_pullOf_11 zF_X0_20 zKo_17 rfl (Nat.le_of_ble_eq_true rfl) zRf_17_2 ?_
    refine wx_iload_n (i := 1) dX0_pullOf_14 rfl rfl ?_
    refine wx_aaldG (k := 20) dX0_pullOf_15 zK_20 (Nat.le_of_ble_eq_true rfl) rfl ?_ ?_
    · exact ⟨ht, by decide⟩
    refine wx_iload_n (i := 2) dX0_pullOf_16 rfl rfl ?_
    refine wx_iconst (v := 2) dX0_pullOf_17 (by decide) ?_
    refine wx_iadd dX0_pullOf_18 ?_
    refine wx_ialdG (j := (x + 2).toNat) dX0_pullOf_19 (zKin_20 _ (by omega)) (zKlt_20 _ (by omega)) ?_ ?_ ?_
    · (simp only [zl_2, zi_nI, zi_add, zi_sub, zi_mul] <;> first | done | exact congrArg zi (by omega))
    · exact ⟨by omega, by decide⟩
    refine wx_goto (tgt := 24) dX0_pullOf_20 (by decide) ?_
    refine wx_iret dX0_pullOf_24 rfl rfl (Or.inl rfl) ?_
    first | exact zki hK (if_pos h7) | exact zki hK (if_neg h7)
/-- the sum of the first i -/
def zMs (f : Nat → Int32) : Nat → Int32
  | 0 => 0
  | i + 1 => zMs f i + f i
theorem lp_minutes {d : Nat} {K : List Value → zS → Prop} {mm : zM} {n : Nat} (hs : mm 17 8 = nI n) (hn : n ≤ 60) (hK : K [.int (zMs (mm 26) n)] (zG mm)) : ∀ c i : Nat, i + c = n → wx (d) mX0_minutesTogether 4 [some (.ref 17), some (.int (zMs (mm 26) i)), some (.int (nI i))] [] (zG mm) K := by
  intro c
  induction c with
  | zero =>
    intro i hi 
    refine wx_iload_n (i := 2) dX0_minutesTogether_4 rfl rfl ?_
    refine wx_aload_n (i := 0) dX0_minutesTogether_5 rfl rfl ?_
    refine wx_getIG (k := 17) dX0_minutesTogether_6 zF_X0_39 zKo_17 rfl (Nat.le_of_ble_eq_true rfl) ?_
    refine wx_icmp_ge (tgt := 27) dX0_minutesTogether_9 (by decide) (fun h9 => ?_) (fun h9 => ?_)
    · skip
      have hin : i = n := by omega
      subst hin
      refine wx_iload_n (i := 1) dX0_minutesTogether_27 rfl rfl ?_
      refine wx_iret dX0_minutesTogether_28 rfl rfl (Or.inl rfl) ?_
      exact hK
    · exact absurd (by show mm 17 8 ≤ nI i; rw [hs]; exact nI_le (by omega) (by omega)) h9 --end
  | succ c ih =>
    intro i hi 
    refine wx_iload_n (i := 2) dX0_minutesTogether_4 rfl rfl ?_
    refine wx_aload_n (i := 0) dX0_minutesTogether_5 rfl rfl ?_
    refine wx_getIG (k := 17) dX0_minutesTogether_6 zF_X0_39 zKo_17 rfl (Nat.le_of_ble_eq_true rfl) ?_
    refine wx_icmp_ge (tgt := 27) dX0_minutesTogether_9 (by decide) (fun h9 => ?_) (fun h9 => ?_)
    · exact absurd h9 (by show ¬ mm 17 8 ≤ nI i; rw [hs]; exact nI_ge (by omega) (by omega)) --end
    · skip
      refine wx_iload_n (i := 1) dX0_minutesTogether_12 rfl rfl ?_
      refine wx_aload_n (i := 0) dX0_minutesTogether_13 rfl rfl ?_
      refine wx_getRG (k := 17) (t := 26) dX0_minutesTogether_14 zF_X0_29 zKo_17 rfl (Nat.le_of_ble_eq_true rfl) zRf_17_5 ?_
      refine wx_iload_n (i := 2) dX0_minutesTogether_17 rfl rfl ?_
      refine wx_ialdG (k := 26) dX0_minutesTogether_18 zK_26 (Nat.le_of_ble_eq_true rfl) rfl ?_ ?_
      · exact ⟨by omega, by decide⟩
      refine wx_iadd dX0_minutesTogether_19 ?_
      refine wx_istore_n (i := 1) dX0_minutesTogether_20 rfl (Nat.le_of_ble_eq_true rfl) rfl ?_
      refine wx_inc (c := 1) dX0_minutesTogether_21 rfl (by decide) (Nat.le_of_ble_eq_true rfl) rfl ?_
      refine wx_goto (tgt := 4) dX0_minutesTogether_24 (by decide) ?_
      rw [nI_1]
      exact ih (i + 1) (by omega)
theorem s_X0_minutesTogether {d : Nat} {K : List Value → zS → Prop} {mm : zM} {n : Nat} (hs : mm 17 8 = nI n) (hn : n ≤ 60) (hK : K [.int (zMs (mm 26) n)] (zG mm)) : wm (d) mX0_minutesTogether [.ref 17] (zG mm) K := by
  refine wm_of2 (L0 := [some (.ref 17), none, none]) zCm_X0_minutesTogether (Or.inl rfl) (Nat.le_of_ble_eq_true rfl) rfl ?_
  refine wx_iconst (v := 0) dX0_minutesTogether_0 (by decide) ?_
  refine wx_istore_n (i := 1) dX0_minutesTogether_1 rfl (Nat.le_of_ble_eq_true rfl) rfl ?_
  refine wx_iconst (v := 0) dX0_minutesTogether_2 (by decide) ?_
  refine wx_istore_n (i := 2) dX0_minutesTogether_3 rfl (Nat.le_of_ble_eq_true rfl) rfl ?_
  exact lp_minutes hs hn hK n 0 (by omega)
/-- zone z + (e - 2) is there -/
def zTh (n z e : Nat) : Prop := 2 ≤ z + e ∧ z + e < n + 2
/-- a stroke would sink the zone at e -/
def zSk (mm : zM) (n z : Nat) (m : Int32) (p : Nat → Int32) (h : Nat → Int32) (e : Nat) : Prop := zTh n z e ∧ h (z + e - 2) - m * p e < -100000
theorem zTh_i {n z e : Nat} (hn : n ≤ 16) (hz : z < n) (he : e < 5) (x : Int32) (hx : x = nI n) : (0 ≤ nI z + zi ((e : Int) - 2) ∧ nI z + zi ((e : Int) - 2) ≤ x - 1) ↔ zTh n z e := by
  subst hx
  unfold zTh
  rw [zi_nI, zi_nI, zi_add, zl_1, zi_sub, zl_0, zi_le (by omega) (by omega), zi_le (by omega) (by omega)]
  omega
theorem zd_succ (e : Nat) : zi ((e : Int) - 2) + 1 = zi (((e + 1 : Nat) : Int) - 2) := by
  rw [zl_1, zi_add]
  exact congrArg zi (by omega)
theorem zPu_in (mm : zM) {t e : Nat} (he : e < 5) : zPu mm t ((e : Int) - 2) = mm (20 + 1 + t) e := by
  unfold zPu
  rw [if_pos (by omega)]
  exact congrArg _ (by omega)
theorem lp_sink {d : Nat} {K : List Value → zS → Prop} {mm : zM} {n z t : Nat} {m : Int32} (hn : 4 ≤ n ∧ n ≤ 16) (hz : z < n) (ht : t < 3) (hzn : mm 17 7 = nI n) (h1 : (∃ e, e < 5 ∧ zSk mm n z m (mm (20 + 1 + t)) (mm 18) e) → K [.int 1] (zG mm)) (h0 : ¬ (∃ e, e < 5 ∧ zSk mm n z m (mm (20 + 1 + t)) (mm 18) e) → K [.int 0] (zG mm)) : ∀ c i : Nat, i + c = 5 → (∀ e, e < i → ¬ zSk mm n z m (mm (20 + 1 + t)) (mm 18) e) → wx (d + 2) mX0_wouldSink 4 [some (.ref 17), some (.int (nI t)), some (.int (nI z)), some (.int m), some (.int (zi ((i : Int) - 2)))] [] (zG mm) K := by
  intro c
  induction c with
  | zero =>
    intro i hi hno
    refine wx_iload dX0_wouldSink_4 rfl ?_
    refine wx_iconst (v := 2) dX0_wouldSink_6 (by decide) ?_
    refine wx_icmp_gt (tgt := 53) dX0_wouldSink_7 (by decide) (fun h7 => ?_) (fun h7 => ?_)
    · skip
      refine wx_iconst (v := 0) dX0_wouldSink_53 (by decide) ?_
      refine wx_iret dX0_wouldSink_54 rfl rfl (Or.inl rfl) (h0 (fun q => ?_))
      obtain ⟨e, he, h⟩ := q
      exact hno e (by omega) h
    · exact absurd (by rw [zl_2]; exact (zi_lt (by omega) (by omega)).mpr (by omega)) h7 --end
  | succ c ih =>
    intro i hi hno
    have he : i < 5 := by omega
    refine wx_iload dX0_wouldSink_4 rfl ?_
    refine wx_iconst (v := 2) dX0_wouldSink_6 (by decide) ?_
    refine wx_icmp_gt (tgt := 53) dX0_wouldSink_7 (by decide) (fun h7 => ?_) (fun h7 => ?_)
    · exact absurd h7 (by rw [zl_2, zi_lt (by omega) (by omega)]; omega) --end
    · skip
      refine wx_aload_n (i := 0) dX0_wouldSink_10 rfl rfl ?_
      refine wx_iload_n (i := 2) dX0_wouldSink_11 rfl rfl ?_
      refine wx_iload dX0_wouldSink_12 rfl ?_
      refine wx_iadd dX0_wouldSink_14 ?_
      refine wx_V1 dX0_wouldSink_15 zPV_X0_isThere zLk_X0_67 rfl (Nat.le_of_ble_eq_true rfl) (Nat.le_of_ble_eq_true rfl) (Or.inr rfl) ?_
      refine s_X0_isThere _ ?_
      refine wx_r1 ?_
      refine wx_eqb (tgt := 47) dX0_wouldSink_18 (by decide) (fun h18 => ?_) (fun h18 => ?_)
      · rw [zTh_i hn.2 hz he _ hzn] at h18
        refine wx_inc (c := 1) dX0_wouldSink_47 rfl (by decide) (Nat.le_of_ble_eq_true rfl) rfl ?_
        refine wx_goto (tgt := 4) dX0_wouldSink_50 (by decide) ?_
        rw [zd_succ]
        refine ih (i + 1) (by omega) (fun e h => ?_)
        rcases Nat.lt_or_ge e i with q | q
        · exact hno e q
        · rw [show e = i by omega]
          first | exact hs | exact fun w => h18 w.1
      · rw [zTh_i hn.2 hz he _ hzn] at h18
        have hth : zTh n z i := h18
        unfold zTh at h18
        refine wx_aload_n (i := 0) dX0_wouldSink_21 rfl rfl ?_
        refine wx_getRG (k := 17) (t := 18) dX0_wouldSink_22 zF_X0_9 zKo_17 rfl (Nat.le_of_ble_eq_true rfl) zRf_17_0 ?_
        refine wx_iload_n (i := 2) dX0_wouldSink_25 rfl rfl ?_
        refine wx_iload dX0_wouldSink_26 rfl ?_
        refine wx_iadd dX0_wouldSink_28 ?_
        refine wx_ialdG (k := 18) (j := z + i - 2) dX0_wouldSink_29 zK_18 (Nat.le_of_ble_eq_true rfl) ?_ ?_ ?_
        · (simp only [zi_nI, zi_add] <;> first | done | exact congrArg zi (by omega))
        · exact ⟨by omega, by decide⟩
        refine wx_iload_n (i := 3) dX0_wouldSink_30 rfl rfl ?_
        refine wx_aload_n (i := 0) dX0_wouldSink_31 rfl rfl ?_
        refine wx_iload_n (i := 1) dX0_wouldSink_32 rfl rfl ?_
        refine wx_iload dX0_wouldSink_33 rfl ?_
        refine wx_V2 dX0_wouldSink_35 zPV_X0_pullOf zLk_X0_71 rfl (Nat.le_of_ble_eq_true rfl) (Nat.le_of_ble_eq_true rfl) (Or.inr rfl) ?_
        refine s_X0_pullOf ht (by omega) ?_
        rw [zPu_in mm he]
        refine wx_r1 ?_
        refine wx_imul dX0_wouldSink_38 ?_
        refine wx_isub dX0_wouldSink_39 ?_
        refine wx_ldc dX0_wouldSink_40 zKc_X0_75 ?_
        refine wx_icmp_ge (tgt := 47) dX0_wouldSink_42 (by decide) (fun h42 => ?_) (fun h42 => ?_)
        · have hs : ¬ zSk mm n z m (mm (20 + 1 + t)) (mm 18) i := fun q => z_ltn q.2 h42
          refine wx_inc (c := 1) dX0_wouldSink_47 rfl (by decide) (Nat.le_of_ble_eq_true rfl) rfl ?_
          refine wx_goto (tgt := 4) dX0_wouldSink_50 (by decide) ?_
          rw [zd_succ]
          refine ih (i + 1) (by omega) (fun e h => ?_)
          rcases Nat.lt_or_ge e i with q | q
          · exact hno e q
          · rw [show e = i by omega]
            first | exact hs | exact fun w => h18 w.1
        · skip
          refine wx_iconst (v := 1) dX0_wouldSink_45 (by decide) ?_
          refine wx_iret dX0_wouldSink_46 rfl rfl (Or.inl rfl) ?_
          exact h1 ⟨i, he, hth, z_nle h42⟩
theorem s_X0_wouldSink {d : Nat} {K : List Value → zS → Prop} {mm : zM} {n z t : Nat} {m : Int32} (hn : 4 ≤ n ∧ n ≤ 16) (hz : z < n) (ht : t < 3) (hzn : mm 17 7 = nI n) (h1 : (∃ e, e < 5 ∧ zSk mm n z m (mm (20 + 1 + t)) (mm 18) e) → K [.int 1] (zG mm)) (h0 : ¬ (∃ e, e < 5 ∧ zSk mm n z m (mm (20 + 1 + t)) (mm 18) e) → K [.int 0] (zG mm)) : wm (d + 2) mX0_wouldSink [.ref 17, .int (nI t), .int (nI z), .int m] (zG mm) K := by
  refine wm_of2 (L0 := [some (.ref 17), some (.int (nI t)), some (.int (nI z)), some (.int m), none]) zCm_X0_wouldSink (Or.inl rfl) (Nat.le_of_ble_eq_true rfl) rfl ?_
  refine wx_bipush (v := (-2)) dX0_wouldSink_0 (by decide) ?_
  refine wx_istore dX0_wouldSink_2 (Nat.le_of_ble_eq_true rfl) rfl ?_
  exact lp_sink hn hz ht hzn h1 h0 5 0 (by omega) (fun e h => absurd h (Nat.not_lt_zero e))
theorem wx_weak {d : Nat} {M : zMt} {pc : Nat} {L : List (Option Value)} {st : List Value} {σ : zS} {K : List Value → zS → Prop} (i : Nat) (h : wx d M pc (L.set i none) st σ K) : wx d M pc L st σ K := by
  intro X p l e R s m args below meth c Q nn hC hn hr H locs ls hW hS hl
  refine h X p l e R s m args below meth c Q nn hC hn hr H locs ls hW hS ⟨hl.1, hl.2.1, fun q hq => hl.2.2 q ?_⟩
  obtain ⟨v, h1, h2⟩ := zPairs_mem hq
  have e : L[q.1]? = some (some v) := by
    by_cases z : q.1 = i
    · rw [z] at h1
      have hlt : i < L.length := by have := (List.getElem?_eq_some_iff.mp h1).1; rwa [List.length_set] at this
      rw [List.getElem?_set_self hlt] at h1
      cases h1
    · rw [List.getElem?_set_ne (fun w => z w.symm)] at h1
      exact h1
  have := zPairs_in (X := X) e
  rw [← h2] at this
  exact this
theorem zkm {K : List Value → zS → Prop} {r : List Value} {a b : zM} (h : K r (zG a)) (e : a = b) : K r (zG b) := e ▸ h
/-- heights when the first e places of a stroke are done -/
def zHt (n z : Nat) (m : Int32) (p h : Nat → Int32) (e : Nat) : Nat → Int32 := fun i => if i < n ∧ z ≤ i + 2 ∧ i + 2 < z + e then h i - m * p (i + 2 - z) else h i
/-- what a stroke takes at e -/
noncomputable def zTk (n z : Nat) (m : Int32) (p : Nat → Int32) (e : Nat) : Int32 := if 2 ≤ z + e ∧ z + e < n + 2 then m * p e else 0
noncomputable def zSt (mm : zM) (ck ch n z : Nat) (m : Int32) (p : Nat → Int32) (e : Nat) : zM := va_up (va_up mm ck (fun j => if j < e then zTk n z m p j else mm ck j)) ch (zHt n z m p (mm ch) e)
theorem zHt_0 (n z : Nat) (m : Int32) (p h : Nat → Int32) : zHt n z m p h 0 = h := by
  funext i
  unfold zHt
  rw [if_neg (by omega)]
theorem zSt_0 (mm : zM) (ck ch n z : Nat) (m : Int32) (p : Nat → Int32) (hne : ck ≠ ch) : zSt mm ck ch n z m p 0 = mm := by
  funext a
  unfold zSt
  rw [zHt_0]
  by_cases h : a = ch
  · subst h; simp [va_up]
  · by_cases g : a = ck
    · subst g; simp [va_up, h]
    · simp [va_up, h, g]
theorem zHt_succ {n z e : Nat} {m : Int32} {p h : Nat → Int32} (hth : zTh n z e) : upd (zHt n z m p h e) (z + e - 2) (zHt n z m p h e (z + e - 2) - m * p e) = zHt n z m p h (e + 1) := by
  unfold zTh at hth
  funext i
  unfold upd zHt
  by_cases q : i = z + e - 2
  · rw [if_pos q, if_neg (by omega), if_pos (by omega), q]
    rw [show z + e - 2 + 2 - z = e by omega]
  · rw [if_neg q]
    by_cases g : i < n ∧ z ≤ i + 2 ∧ i + 2 < z + e
    · rw [if_pos g, if_pos (by omega)]
    · rw [if_neg g, if_neg (by omega)]
theorem zHt_same {n z e : Nat} {m : Int32} {p h : Nat → Int32} (hth : ¬ zTh n z e) : zHt n z m p h e = zHt n z m p h (e + 1) := by
  unfold zTh at hth
  funext i
  unfold zHt
  by_cases g : i < n ∧ z ≤ i + 2 ∧ i + 2 < z + e
  · rw [if_pos g, if_pos (by omega)]
  · rw [if_neg g, if_neg (by omega)]
theorem zSt_T {mm : zM} {ck ch n z e : Nat} {m : Int32} {p : Nat → Int32} (hne : ck ≠ ch) (hth : zTh n z e) : zU (zU (zSt mm ck ch n z m p e) ck e (m * p e)) ch (z + e - 2) (zSt mm ck ch n z m p e ch (z + e - 2) - m * p e) = zSt mm ck ch n z m p (e + 1) := by
  funext a
  by_cases h : a = ch
  · subst h
    have e1 : zSt mm ck a n z m p e a = zHt n z m p (mm a) e := by simp [zSt, va_up]
    have e2 : zSt mm ck a n z m p (e + 1) a = zHt n z m p (mm a) (e + 1) := by simp [zSt, va_up]
    rw [zU_at, zU_ne (Ne.symm hne), e1, e2, zHt_succ hth]
  · rw [zU_ne h]
    by_cases g : a = ck
    · subst g
      rw [zU_at]
      have e1 : ∀ q, zSt mm a ch n z m p q a = fun j => if j < q then zTk n z m p j else mm a j := fun q => by simp [zSt, va_up, h]
      rw [e1, e1]
      funext j
      unfold upd
      by_cases q : j = e
      · subst q
        rw [if_pos rfl, if_pos (by omega)]
        unfold zTk
        rw [if_pos (show 2 ≤ z + j ∧ z + j < n + 2 from hth)]
      · rw [if_neg q]
        show (if j < e then zTk n z m p j else mm a j) = _
        by_cases w : j < e
        · rw [if_pos w, if_pos (by omega)]
        · rw [if_neg w, if_neg (by omega)]
    · rw [zU_ne g]
      simp [zSt, va_up, h, g]
theorem zSt_F {mm : zM} {ck ch n z e : Nat} {m : Int32} {p : Nat → Int32} (hne : ck ≠ ch) (hth : ¬ zTh n z e) : zU (zSt mm ck ch n z m p e) ck e 0 = zSt mm ck ch n z m p (e + 1) := by
  funext a
  by_cases h : a = ch
  · subst h
    rw [zU_ne (Ne.symm hne)]
    simp only [zSt, va_up, if_true]
    exact zHt_same hth
  · by_cases g : a = ck
    · subst g
      rw [zU_at]
      have e1 : ∀ q, zSt mm a ch n z m p q a = fun j => if j < q then zTk n z m p j else mm a j := fun q => by simp [zSt, va_up, h]
      rw [e1, e1]
      funext j
      unfold upd
      by_cases q : j = e
      · subst q
        rw [if_pos rfl, if_pos (by omega)]
        unfold zTk
        rw [if_neg (show ¬ (2 ≤ z + j ∧ z + j < n + 2) from hth)]
      · rw [if_neg q]
        show (if j < e then zTk n z m p j else mm a j) = _
        by_cases w : j < e
        · rw [if_pos w, if_pos (by omega)]
        · rw [if_neg w, if_neg (by omega)]
    · rw [zU_ne g]
      simp [zSt, va_up, h, g]
theorem zSt_off {mm : zM} {ck ch n z e a : Nat} {m : Int32} {p : Nat → Int32} (h1 : a ≠ ck) (h2 : a ≠ ch) : zSt mm ck ch n z m p e a = mm a := by simp [zSt, va_up, h1, h2]
theorem zSt_ch {mm : zM} {ck ch n z e : Nat} {m : Int32} {p : Nat → Int32} : zSt mm ck ch n z m p e ch = zHt n z m p (mm ch) e := by simp [zSt, va_up]
theorem lp_do {d : Nat} {K : List Value → zS → Prop} {mm : zM} {n z t : Nat} {m : Int32} (hn : 4 ≤ n ∧ n ≤ 16) (hz : z < n) (ht : t < 3) (hzn : mm 17 7 = nI n) {k : Nat} (hk : k < 60) (hks : mm 17 8 = nI k) (hx : wx (d + 2) mX0_doStroke 93 [some (.ref 17), some (.int (nI t)), some (.int (nI z)), some (.int m), none, none] [] (zG (zSt mm (27 + 1 + k) 18 n z m (mm (20 + 1 + t)) 5)) K) : ∀ c i : Nat, i + c = 5 → wx (d + 2) mX0_doStroke 14 [some (.ref 17), some (.int (nI t)), some (.int (nI z)), some (.int m), some (.int (zi ((i : Int) - 2))), none] [] (zG (zSt mm (27 + 1 + k) 18 n z m (mm (20 + 1 + t)) i)) K := by
  intro c
  induction c with
  | zero =>
    intro i hi
    have hin : i = 5 := by omega
    subst hin
    refine wx_iload dX0_doStroke_14 rfl ?_
    refine wx_iconst (v := 2) dX0_doStroke_16 (by decide) ?_
    refine wx_icmp_gt (tgt := 93) dX0_doStroke_17 (by decide) (fun h17 => ?_) (fun h17 => ?_)
    · skip
      refine wx_weak 4 ?_
      exact hx
    · exact absurd (by rw [zl_2]; exact (zi_lt (by omega) (by omega)).mpr (by omega)) h17 --end
  | succ c ih =>
    intro i hi
    have he : i < 5 := by omega
    have ep : zSt mm (27 + 1 + k) 18 n z m (mm (20 + 1 + t)) i (20 + 1 + t) = mm (20 + 1 + t) := zSt_off (by omega) (by omega)
    have e17 : zSt mm (27 + 1 + k) 18 n z m (mm (20 + 1 + t)) i 17 = mm 17 := zSt_off (by omega) (by omega)
    have hzn2 : zSt mm (27 + 1 + k) 18 n z m (mm (20 + 1 + t)) i 17 7 = nI n := by rw [e17]; exact hzn
    have hks2 : zSt mm (27 + 1 + k) 18 n z m (mm (20 + 1 + t)) i 17 8 = nI k := by rw [e17]; exact hks
    refine wx_iload dX0_doStroke_14 rfl ?_
    refine wx_iconst (v := 2) dX0_doStroke_16 (by decide) ?_
    refine wx_icmp_gt (tgt := 93) dX0_doStroke_17 (by decide) (fun h17 => ?_) (fun h17 => ?_)
    · exact absurd h17 (by rw [zl_2, zi_lt (by omega) (by omega)]; omega) --end
    · skip
      refine wx_aload_n (i := 0) dX0_doStroke_20 rfl rfl ?_
      refine wx_iload_n (i := 2) dX0_doStroke_21 rfl rfl ?_
      refine wx_iload dX0_doStroke_22 rfl ?_
      refine wx_iadd dX0_doStroke_24 ?_
      refine wx_V1 dX0_doStroke_25 zPV_X0_isThere zLk_X0_67 rfl (Nat.le_of_ble_eq_true rfl) (Nat.le_of_ble_eq_true rfl) (Or.inr rfl) ?_
      refine s_X0_isThere _ ?_
      refine wx_r1 ?_
      refine wx_eqb (tgt := 43) dX0_doStroke_28 (by decide) (fun h28 => ?_) (fun h28 => ?_)
      · rw [zTh_i hn.2 hz he _ hzn2] at h28
        refine wx_iconst (v := 0) dX0_doStroke_43 (by decide) ?_
        refine wx_istore dX0_doStroke_44 (Nat.le_of_ble_eq_true rfl) rfl ?_
        refine wx_aload_n (i := 0) dX0_doStroke_46 rfl rfl ?_
        refine wx_getRG (k := 17) (t := 27) dX0_doStroke_47 zF_X0_32 zKo_17 rfl (Nat.le_of_ble_eq_true rfl) zRf_17_6 ?_
        refine wx_aload_n (i := 0) dX0_doStroke_50 rfl rfl ?_
        refine wx_getIG (k := 17) dX0_doStroke_51 zF_X0_39 zKo_17 rfl (Nat.le_of_ble_eq_true rfl) ?_
        refine wx_aaldG (k := 27) (j := k) dX0_doStroke_54 zK_27 (Nat.le_of_ble_eq_true rfl) ?_ ?_ ?_
        · exact hks2
        · exact ⟨hk, by decide⟩
        refine wx_iload dX0_doStroke_55 rfl ?_
        refine wx_iconst (v := 2) dX0_doStroke_57 (by decide) ?_
        refine wx_iadd dX0_doStroke_58 ?_
        refine wx_iload dX0_doStroke_59 rfl ?_
        refine wx_iastG (j := i) dX0_doStroke_61 (zKin_27 _ (by omega)) (zKlt_27 _ (by omega)) ?_ ?_ ?_
        · (simp only [zl_2, zi_nI, zi_add, zi_sub] <;> first | done | exact congrArg zi (by omega))
        · exact ⟨by omega, by decide⟩
        refine wx_aload_n (i := 0) dX0_doStroke_62 rfl rfl ?_
        refine wx_iload_n (i := 2) dX0_doStroke_63 rfl rfl ?_
        refine wx_iload dX0_doStroke_64 rfl ?_
        refine wx_iadd dX0_doStroke_66 ?_
        refine wx_V1 dX0_doStroke_67 zPV_X0_isThere zLk_X0_67 rfl (Nat.le_of_ble_eq_true rfl) (Nat.le_of_ble_eq_true rfl) (Or.inr rfl) ?_
        refine s_X0_isThere _ ?_
        refine wx_r1 ?_
        refine wx_eqb (tgt := 87) dX0_doStroke_70 (by decide) (fun h70 => ?_) (fun h70 => ?_)
        · rw [zTh_i hn.2 hz he _ (show zU (zSt mm (27 + 1 + k) 18 n z m (mm (20 + 1 + t)) i) (27 + 1 + k) i _ 17 7 = nI n by rw [zU_ne (by omega)]; exact hzn2)] at h70
          refine wx_inc (c := 1) dX0_doStroke_87 rfl (by decide) (Nat.le_of_ble_eq_true rfl) rfl ?_
          refine wx_goto (tgt := 14) dX0_doStroke_90 (by decide) ?_
          refine wx_weak 5 ?_
          rw [zd_succ]
          first
            | exact absurd hth h70
            | exact absurd h70 h28
            | (rw [show zU (zSt mm (27 + 1 + k) 18 n z m (mm (20 + 1 + t)) i) (27 + 1 + k) i (m * mm (20 + 1 + t) i) 18 (z + i - 2) = zSt mm (27 + 1 + k) 18 n z m (mm (20 + 1 + t)) i 18 (z + i - 2) from congrFun (zU_ne (by omega)) _, zSt_T (by omega) hth]
               exact ih (i + 1) (by omega))
            | (rw [zSt_F (by omega) h28]
               exact ih (i + 1) (by omega))
            | exact (0 : Nat)
        · rw [zTh_i hn.2 hz he _ (show zU (zSt mm (27 + 1 + k) 18 n z m (mm (20 + 1 + t)) i) (27 + 1 + k) i _ 17 7 = nI n by rw [zU_ne (by omega)]; exact hzn2)] at h70
          have hz70 : 2 ≤ z + i ∧ z + i < n + 2 := h70
          refine wx_aload_n (i := 0) dX0_doStroke_73 rfl rfl ?_
          refine wx_getRG (k := 17) (t := 18) dX0_doStroke_74 zF_X0_9 zKo_17 rfl (Nat.le_of_ble_eq_true rfl) zRf_17_0 ?_
          refine wx_iload_n (i := 2) dX0_doStroke_77 rfl rfl ?_
          refine wx_iload dX0_doStroke_78 rfl ?_
          refine wx_iadd dX0_doStroke_80 ?_
          refine wx_dup2 dX0_doStroke_81 rfl rfl ?_
          refine wx_ialdG (k := 18) (j := z + i - 2) dX0_doStroke_82 zK_18 (Nat.le_of_ble_eq_true rfl) ?_ ?_ ?_
          · (simp only [zi_nI, zi_add] <;> first | done | exact congrArg zi (by omega))
          · exact ⟨by omega, by decide⟩
          refine wx_iload dX0_doStroke_83 rfl ?_
          refine wx_isub dX0_doStroke_85 ?_
          refine wx_iastG (k := 18) (j := z + i - 2) dX0_doStroke_86 zK_18 (Nat.le_of_ble_eq_true rfl) ?_ ?_ ?_
          · (simp only [zi_nI, zi_add] <;> first | done | exact congrArg zi (by omega))
          · exact ⟨by omega, by decide⟩
          refine wx_inc (c := 1) dX0_doStroke_87 rfl (by decide) (Nat.le_of_ble_eq_true rfl) rfl ?_
          refine wx_goto (tgt := 14) dX0_doStroke_90 (by decide) ?_
          refine wx_weak 5 ?_
          rw [zd_succ]
          first
            | exact absurd hth h70
            | exact absurd h70 h28
            | (rw [show zU (zSt mm (27 + 1 + k) 18 n z m (mm (20 + 1 + t)) i) (27 + 1 + k) i (m * mm (20 + 1 + t) i) 18 (z + i - 2) = zSt mm (27 + 1 + k) 18 n z m (mm (20 + 1 + t)) i 18 (z + i - 2) from congrFun (zU_ne (by omega)) _, zSt_T (by omega) hth]
               exact ih (i + 1) (by omega))
            | (rw [zSt_F (by omega) h28]
               exact ih (i + 1) (by omega))
            | exact (0 : Nat)
      · rw [zTh_i hn.2 hz he _ hzn2] at h28
        have hth : zTh n z i := h28
        refine wx_iload_n (i := 3) dX0_doStroke_31 rfl rfl ?_
        refine wx_aload_n (i := 0) dX0_doStroke_32 rfl rfl ?_
        refine wx_iload_n (i := 1) dX0_doStroke_33 rfl rfl ?_
        refine wx_iload dX0_doStroke_34 rfl ?_
        refine wx_V2 dX0_doStroke_36 zPV_X0_pullOf zLk_X0_71 rfl (Nat.le_of_ble_eq_true rfl) (Nat.le_of_ble_eq_true rfl) (Or.inr rfl) ?_
        refine s_X0_pullOf ht (by omega) ?_
        rw [zPu_in _ he, ep]
        refine wx_r1 ?_
        refine wx_imul dX0_doStroke_39 ?_
        refine wx_goto (tgt := 44) dX0_doStroke_40 (by decide) ?_
        refine wx_istore dX0_doStroke_44 (Nat.le_of_ble_eq_true rfl) rfl ?_
        refine wx_aload_n (i := 0) dX0_doStroke_46 rfl rfl ?_
        refine wx_getRG (k := 17) (t := 27) dX0_doStroke_47 zF_X0_32 zKo_17 rfl (Nat.le_of_ble_eq_true rfl) zRf_17_6 ?_
        refine wx_aload_n (i := 0) dX0_doStroke_50 rfl rfl ?_
        refine wx_getIG (k := 17) dX0_doStroke_51 zF_X0_39 zKo_17 rfl (Nat.le_of_ble_eq_true rfl) ?_
        refine wx_aaldG (k := 27) (j := k) dX0_doStroke_54 zK_27 (Nat.le_of_ble_eq_true rfl) ?_ ?_ ?_
        · exact hks2
        · exact ⟨hk, by decide⟩
        refine wx_iload dX0_doStroke_55 rfl ?_
        refine wx_iconst (v := 2) dX0_doStroke_57 (by decide) ?_
        refine wx_iadd dX0_doStroke_58 ?_
        refine wx_iload dX0_doStroke_59 rfl ?_
        refine wx_iastG (j := i) dX0_doStroke_61 (zKin_27 _ (by omega)) (zKlt_27 _ (by omega)) ?_ ?_ ?_
        · (simp only [zl_2, zi_nI, zi_add, zi_sub] <;> first | done | exact congrArg zi (by omega))
        · exact ⟨by omega, by decide⟩
        refine wx_aload_n (i := 0) dX0_doStroke_62 rfl rfl ?_
        refine wx_iload_n (i := 2) dX0_doStroke_63 rfl rfl ?_
        refine wx_iload dX0_doStroke_64 rfl ?_
        refine wx_iadd dX0_doStroke_66 ?_
        refine wx_V1 dX0_doStroke_67 zPV_X0_isThere zLk_X0_67 rfl (Nat.le_of_ble_eq_true rfl) (Nat.le_of_ble_eq_true rfl) (Or.inr rfl) ?_
        refine s_X0_isThere _ ?_
        refine wx_r1 ?_
        refine wx_eqb (tgt := 87) dX0_doStroke_70 (by decide) (fun h70 => ?_) (fun h70 => ?_)
        · rw [zTh_i hn.2 hz he _ (show zU (zSt mm (27 + 1 + k) 18 n z m (mm (20 + 1 + t)) i) (27 + 1 + k) i _ 17 7 = nI n by rw [zU_ne (by omega)]; exact hzn2)] at h70
          refine wx_inc (c := 1) dX0_doStroke_87 rfl (by decide) (Nat.le_of_ble_eq_true rfl) rfl ?_
          refine wx_goto (tgt := 14) dX0_doStroke_90 (by decide) ?_
          refine wx_weak 5 ?_
          rw [zd_succ]
          first
            | exact absurd hth h70
            | exact absurd h70 h28
            | (rw [show zU (zSt mm (27 + 1 + k) 18 n z m (mm (20 + 1 + t)) i) (27 + 1 + k) i (m * mm (20 + 1 + t) i) 18 (z + i - 2) = zSt mm (27 + 1 + k) 18 n z m (mm (20 + 1 + t)) i 18 (z + i - 2) from congrFun (zU_ne (by omega)) _, zSt_T (by omega) hth]
               exact ih (i + 1) (by omega))
            | (rw [zSt_F (by omega) h28]
               exact ih (i + 1) (by omega))
            | exact (0 : Nat)
        · rw [zTh_i hn.2 hz he _ (show zU (zSt mm (27 + 1 + k) 18 n z m (mm (20 + 1 + t)) i) (27 + 1 + k) i _ 17 7 = nI n by rw [zU_ne (by omega)]; exact hzn2)] at h70
          have hz70 : 2 ≤ z + i ∧ z + i < n + 2 := h70
          refine wx_aload_n (i := 0) dX0_doStroke_73 rfl rfl ?_
          refine wx_getRG (k := 17) (t := 18) dX0_doStroke_74 zF_X0_9 zKo_17 rfl (Nat.le_of_ble_eq_true rfl) zRf_17_0 ?_
          refine wx_iload_n (i := 2) dX0_doStroke_77 rfl rfl ?_
          refine wx_iload dX0_doStroke_78 rfl ?_
          refine wx_iadd dX0_doStroke_80 ?_
          refine wx_dup2 dX0_doStroke_81 rfl rfl ?_
          refine wx_ialdG (k := 18) (j := z + i - 2) dX0_doStroke_82 zK_18 (Nat.le_of_ble_eq_true rfl) ?_ ?_ ?_
          · (simp only [zi_nI, zi_add] <;> first | done | exact congrArg zi (by omega))
          · exact ⟨by omega, by decide⟩
          refine wx_iload dX0_doStroke_83 rfl ?_
          refine wx_isub dX0_doStroke_85 ?_
          refine wx_iastG (k := 18) (j := z + i - 2) dX0_doStroke_86 zK_18 (Nat.le_of_ble_eq_true rfl) ?_ ?_ ?_
          · (simp only [zi_nI, zi_add] <;> first | done | exact congrArg zi (by omega))
          · exact ⟨by omega, by decide⟩
          refine wx_inc (c := 1) dX0_doStroke_87 rfl (by decide) (Nat.le_of_ble_eq_true rfl) rfl ?_
          refine wx_goto (tgt := 14) dX0_doStroke_90 (by decide) ?_
          refine wx_weak 5 ?_
          rw [zd_succ]
          first
            | exact absurd hth h70
            | exact absurd h70 h28
            | (rw [show zU (zSt mm (27 + 1 + k) 18 n z m (mm (20 + 1 + t)) i) (27 + 1 + k) i (m * mm (20 + 1 + t) i) 18 (z + i - 2) = zSt mm (27 + 1 + k) 18 n z m (mm (20 + 1 + t)) i 18 (z + i - 2) from congrFun (zU_ne (by omega)) _, zSt_T (by omega) hth]
               exact ih (i + 1) (by omega))
            | (rw [zSt_F (by omega) h28]
               exact ih (i + 1) (by omega))
            | exact (0 : Nat)
/-- the cells behind a stroke done as the k-th -/
noncomputable def zDo (mm : zM) (n z t : Nat) (m : Int32) (k : Nat) : zM := zU (zU (zU (zU (zU (zSt mm (27 + 1 + k) 18 n z m (mm (20 + 1 + t)) 5) 24 k (nI t)) 25 k (nI z)) 26 k m) 17 8 (nI (k + 1))) 17 10 (mm 17 10 + 1)
theorem lp_do2 {d : Nat} {K : List Value → zS → Prop} {mm : zM} {n z t : Nat} {m : Int32} (hn : 4 ≤ n ∧ n ≤ 16) (hz : z < n) (ht : t < 3) (hzn : mm 17 7 = nI n) {k : Nat} (hk : k < 60) (hks : mm 17 8 = nI k) (hK : K [] (zG (zDo mm n z t m k))) : wx (d + 2) mX0_doStroke 93 [some (.ref 17), some (.int (nI t)), some (.int (nI z)), some (.int m), none, none] [] (zG (zSt mm (27 + 1 + k) 18 n z m (mm (20 + 1 + t)) 5)) K := by
  have e17 : ∀ j, zSt mm (27 + 1 + k) 18 n z m (mm (20 + 1 + t)) 5 17 j = mm 17 j := fun j => congrFun (zSt_off (by omega) (by omega)) j
  have f1 : zSt mm (27 + 1 + k) 18 n z m (mm (20 + 1 + t)) 5 17 8 = nI k := (e17 8).trans hks
  refine wx_aload_n (i := 0) dX0_doStroke_93 rfl rfl ?_
  refine wx_getRG (k := 17) (t := 24) dX0_doStroke_94 zF_X0_23 zKo_17 rfl (Nat.le_of_ble_eq_true rfl) zRf_17_3 ?_
  refine wx_aload_n (i := 0) dX0_doStroke_97 rfl rfl ?_
  refine wx_getIG (k := 17) dX0_doStroke_98 zF_X0_39 zKo_17 rfl (Nat.le_of_ble_eq_true rfl) ?_
  refine wx_iload_n (i := 1) dX0_doStroke_101 rfl rfl ?_
  refine wx_iastG (k := 24) (j := k) dX0_doStroke_102 zK_24 (Nat.le_of_ble_eq_true rfl) ?_ ?_ ?_
  · exact f1
  · exact ⟨hk, by decide⟩
  refine wx_aload_n (i := 0) dX0_doStroke_103 rfl rfl ?_
  refine wx_getRG (k := 17) (t := 25) dX0_doStroke_104 zF_X0_26 zKo_17 rfl (Nat.le_of_ble_eq_true rfl) zRf_17_4 ?_
  refine wx_aload_n (i := 0) dX0_doStroke_107 rfl rfl ?_
  refine wx_getIG (k := 17) dX0_doStroke_108 zF_X0_39 zKo_17 rfl (Nat.le_of_ble_eq_true rfl) ?_
  refine wx_iload_n (i := 2) dX0_doStroke_111 rfl rfl ?_
  refine wx_iastG (k := 25) (j := k) dX0_doStroke_112 zK_25 (Nat.le_of_ble_eq_true rfl) ?_ ?_ ?_
  · (simp only [zU, va_up, Nat.reduceEqDiff, if_false]; exact f1)
  · exact ⟨hk, by decide⟩
  refine wx_aload_n (i := 0) dX0_doStroke_113 rfl rfl ?_
  refine wx_getRG (k := 17) (t := 26) dX0_doStroke_114 zF_X0_29 zKo_17 rfl (Nat.le_of_ble_eq_true rfl) zRf_17_5 ?_
  refine wx_aload_n (i := 0) dX0_doStroke_117 rfl rfl ?_
  refine wx_getIG (k := 17) dX0_doStroke_118 zF_X0_39 zKo_17 rfl (Nat.le_of_ble_eq_true rfl) ?_
  refine wx_iload_n (i := 3) dX0_doStroke_121 rfl rfl ?_
  refine wx_iastG (k := 26) (j := k) dX0_doStroke_122 zK_26 (Nat.le_of_ble_eq_true rfl) ?_ ?_ ?_
  · (simp only [zU, va_up, Nat.reduceEqDiff, if_false]; exact f1)
  · exact ⟨hk, by decide⟩
  refine wx_aload_n (i := 0) dX0_doStroke_123 rfl rfl ?_
  refine wx_dup dX0_doStroke_124 rfl ?_
  refine wx_getIG (k := 17) dX0_doStroke_125 zF_X0_39 zKo_17 rfl (Nat.le_of_ble_eq_true rfl) ?_
  refine wx_iconst (v := 1) dX0_doStroke_128 (by decide) ?_
  refine wx_iadd dX0_doStroke_129 ?_
  refine wx_putIG (k := 17) dX0_doStroke_130 zF_X0_39 zKo_17 rfl (Nat.le_of_ble_eq_true rfl) rfl rfl ?_
  refine wx_aload_n (i := 0) dX0_doStroke_133 rfl rfl ?_
  refine wx_dup dX0_doStroke_134 rfl ?_
  refine wx_getIG (k := 17) dX0_doStroke_135 zF_X0_45 zKo_17 rfl (Nat.le_of_ble_eq_true rfl) ?_
  refine wx_iconst (v := 1) dX0_doStroke_138 (by decide) ?_
  refine wx_iadd dX0_doStroke_139 ?_
  refine wx_putIG (k := 17) dX0_doStroke_140 zF_X0_45 zKo_17 rfl (Nat.le_of_ble_eq_true rfl) rfl rfl ?_
  refine wx_vret dX0_doStroke_143 rfl (Or.inl rfl) ?_
  refine zkm hK ?_
  unfold zDo
  have g1 : ∀ (a b : zM), a 17 8 = nI k → a 17 10 = mm 17 10 → zU (zU a 17 8 (nI (k + 1))) 17 10 (mm 17 10 + 1) = zU (zU a 17 8 (a 17 8 + 1)) 17 10 (zU a 17 8 (a 17 8 + 1) 17 10 + 1) := fun a b q1 q2 => by
    rw [show zU a 17 8 (a 17 8 + 1) 17 10 = a 17 10 from zU_off (by omega), q1, q2, nI_1]
  exact g1 _ mm (by simp only [zU, va_up, Nat.reduceEqDiff, if_false]; exact f1) (by simp only [zU, va_up, Nat.reduceEqDiff, if_false]; exact e17 10)
theorem s_X0_doStroke {d : Nat} {K : List Value → zS → Prop} {mm : zM} {n z t : Nat} {m : Int32} (hn : 4 ≤ n ∧ n ≤ 16) (hz : z < n) (ht : t < 3) (hzn : mm 17 7 = nI n) {k : Nat} (hk : k < 60) (hks : mm 17 8 = nI k) (hK : K [] (zG (zDo mm n z t m k))) : wm (d + 2) mX0_doStroke [.ref 17, .int (nI t), .int (nI z), .int m] (zG mm) K := by
  refine wm_of2 (L0 := [some (.ref 17), some (.int (nI t)), some (.int (nI z)), some (.int m), none, none]) zCm_X0_doStroke (Or.inl rfl) (Nat.le_of_ble_eq_true rfl) rfl ?_
  refine wx_aload_n (i := 0) dX0_doStroke_0 rfl rfl ?_
  refine wx_getIG (k := 17) dX0_doStroke_1 zF_X0_39 zKo_17 rfl (Nat.le_of_ble_eq_true rfl) ?_
  refine wx_bipush (v := 60) dX0_doStroke_4 (by decide) ?_
  refine wx_icmp_lt (tgt := 10) dX0_doStroke_6 (by decide) (fun h6 => ?_) (fun h6 => ?_)
  · skip
    refine wx_bipush (v := (-2)) dX0_doStroke_10 (by decide) ?_
    refine wx_istore dX0_doStroke_12 (Nat.le_of_ble_eq_true rfl) rfl ?_
    have h := lp_do (d := d) hn hz ht hzn hk hks (lp_do2 hn hz ht hzn hk hks hK) 5 0 (by omega)
    rw [zSt_0 _ _ _ _ _ _ _ (by omega)] at h
    exact h
  · exact absurd h6 (by show ¬ ¬ mm 17 8 < 60; rw [hks]; exact fun q => q (nI_lt hk (by decide))) --end
/-- heights when the first e places of a stroke are put back -/
def zHu (n z : Nat) (tk h : Nat → Int32) (e : Nat) : Nat → Int32 := fun i => if i < n ∧ z ≤ i + 2 ∧ i + 2 < z + e then h i + tk (i + 2 - z) else h i
def zUn (mm : zM) (ch n z : Nat) (tk : Nat → Int32) (e : Nat) : zM := va_up mm ch (zHu n z tk (mm ch) e)
theorem zUn_0 (mm : zM) (ch n z : Nat) (tk : Nat → Int32) : zUn mm ch n z tk 0 = mm := by
  funext a
  by_cases h : a = ch
  · subst h
    simp only [zUn, va_up, if_true]
    funext i
    unfold zHu
    rw [if_neg (by omega)]
  · simp [zUn, va_up, h]
theorem zUn_off {mm : zM} {ch n z e a : Nat} {tk : Nat → Int32} (h : a ≠ ch) : zUn mm ch n z tk e a = mm a := by simp [zUn, va_up, h]
theorem zUn_T {mm : zM} {ch n z e : Nat} {tk : Nat → Int32} (hth : zTh n z e) : zU (zUn mm ch n z tk e) ch (z + e - 2) (zUn mm ch n z tk e ch (z + e - 2) + tk e) = zUn mm ch n z tk (e + 1) := by
  have hth2 : 2 ≤ z + e ∧ z + e < n + 2 := hth
  funext a
  by_cases h : a = ch
  · subst h
    rw [zU_at]
    have e1 : ∀ q, zUn mm a n z tk q a = zHu n z tk (mm a) q := fun q => by simp [zUn, va_up]
    rw [e1, e1]
    funext i
    unfold upd zHu
    by_cases q : i = z + e - 2
    · rw [if_pos q, if_neg (by omega), if_pos (by omega), q]
      rw [show z + e - 2 + 2 - z = e by omega]
    · rw [if_neg q]
      by_cases g : i < n ∧ z ≤ i + 2 ∧ i + 2 < z + e
      · rw [if_pos g, if_pos (by omega)]
      · rw [if_neg g, if_neg (by omega)]
  · rw [zU_ne h, zUn_off h, zUn_off h]
theorem zUn_F {mm : zM} {ch n z e : Nat} {tk : Nat → Int32} (hth : ¬ zTh n z e) : zUn mm ch n z tk e = zUn mm ch n z tk (e + 1) := by
  unfold zTh at hth
  funext a
  by_cases h : a = ch
  · subst h
    simp only [zUn, va_up, if_true]
    funext i
    unfold zHu
    by_cases g : i < n ∧ z ≤ i + 2 ∧ i + 2 < z + e
    · rw [if_pos g, if_pos (by omega)]
    · rw [if_neg g, if_neg (by omega)]
  · rw [zUn_off h, zUn_off h]
/-- the cells behind an undoing of the k-th stroke -/
def zUd (mm : zM) (n z k : Nat) : zM := zU (zUn (zU mm 17 8 (nI k)) 18 n z (mm (27 + 1 + k)) 5) 17 10 (mm 17 10 + 1)
theorem lp_undo {d : Nat} {K : List Value → zS → Prop} {mm : zM} {n z k : Nat} (hn : 4 ≤ n ∧ n ≤ 16) (hz : z < n) (hzn : mm 17 7 = nI n) (hk : k < 60) (hks : mm 17 8 = nI (k + 1)) (hkz : mm 25 k = nI z) (hK : K [] (zG (zUd mm n z k))) : ∀ c i : Nat, i + c = 5 → wx (d + 2) mX0_undoLatest 32 [some (.ref 17), some (.int (nI z)), some (.int (zi ((i : Int) - 2)))] [] (zG (zUn (zU mm 17 8 (nI k)) 18 n z (mm (27 + 1 + k)) i)) K := by
  intro c
  induction c with
  | zero =>
    intro i hi
    have hin : i = 5 := by omega
    subst hin
    refine wx_iload_n (i := 2) dX0_undoLatest_32 rfl rfl ?_
    refine wx_iconst (v := 2) dX0_undoLatest_33 (by decide) ?_
    refine wx_icmp_gt (tgt := 77) dX0_undoLatest_34 (by decide) (fun h34 => ?_) (fun h34 => ?_)
    · skip
      refine wx_aload_n (i := 0) dX0_undoLatest_77 rfl rfl ?_
      refine wx_dup dX0_undoLatest_78 rfl ?_
      refine wx_getIG (k := 17) dX0_undoLatest_79 zF_X0_45 zKo_17 rfl (Nat.le_of_ble_eq_true rfl) ?_
      refine wx_iconst (v := 1) dX0_undoLatest_82 (by decide) ?_
      refine wx_iadd dX0_undoLatest_83 ?_
      refine wx_putIG (k := 17) dX0_undoLatest_84 zF_X0_45 zKo_17 rfl (Nat.le_of_ble_eq_true rfl) rfl rfl ?_
      refine wx_vret dX0_undoLatest_87 rfl (Or.inl rfl) ?_
      refine zkm hK ?_
      unfold zUd
      congr 1
    · exact absurd (by rw [zl_2]; exact (zi_lt (by omega) (by omega)).mpr (by omega)) h34 --end
  | succ c ih =>
    intro i hi
    have he : i < 5 := by omega
    have e17 : zUn (zU mm 17 8 (nI k)) 18 n z (mm (27 + 1 + k)) i 17 = zU mm 17 8 (nI k) 17 := zUn_off (by omega)
    have hzn2 : zUn (zU mm 17 8 (nI k)) 18 n z (mm (27 + 1 + k)) i 17 7 = nI n := by rw [e17]; exact (zU_off (by omega)).trans hzn
    have hks2 : zUn (zU mm 17 8 (nI k)) 18 n z (mm (27 + 1 + k)) i 17 8 = nI k := by rw [e17]; exact zU_same _ _ _ _
    have etk : zUn (zU mm 17 8 (nI k)) 18 n z (mm (27 + 1 + k)) i (27 + 1 + k) = mm (27 + 1 + k) := (zUn_off (by omega)).trans (zU_ne (by omega))
    refine wx_iload_n (i := 2) dX0_undoLatest_32 rfl rfl ?_
    refine wx_iconst (v := 2) dX0_undoLatest_33 (by decide) ?_
    refine wx_icmp_gt (tgt := 77) dX0_undoLatest_34 (by decide) (fun h34 => ?_) (fun h34 => ?_)
    · exact absurd h34 (by rw [zl_2, zi_lt (by omega) (by omega)]; omega) --end
    · skip
      refine wx_aload_n (i := 0) dX0_undoLatest_37 rfl rfl ?_
      refine wx_iload_n (i := 1) dX0_undoLatest_38 rfl rfl ?_
      refine wx_iload_n (i := 2) dX0_undoLatest_39 rfl rfl ?_
      refine wx_iadd dX0_undoLatest_40 ?_
      refine wx_V1 dX0_undoLatest_41 zPV_X0_isThere zLk_X0_67 rfl (Nat.le_of_ble_eq_true rfl) (Nat.le_of_ble_eq_true rfl) (Or.inr rfl) ?_
      refine s_X0_isThere _ ?_
      refine wx_r1 ?_
      refine wx_eqb (tgt := 71) dX0_undoLatest_44 (by decide) (fun h44 => ?_) (fun h44 => ?_)
      · rw [zTh_i hn.2 hz he _ hzn2] at h44
        refine wx_inc (c := 1) dX0_undoLatest_71 rfl (by decide) (Nat.le_of_ble_eq_true rfl) rfl ?_
        refine wx_goto (tgt := 32) dX0_undoLatest_74 (by decide) ?_
        rw [zd_succ]
        first
          | (rw [etk, zUn_T (by assumption)]
             exact ih (i + 1) (by omega))
          | (rw [zUn_F (by assumption)]
             exact ih (i + 1) (by omega))
      · rw [zTh_i hn.2 hz he _ hzn2] at h44
        have hz44 : 2 ≤ z + i ∧ z + i < n + 2 := h44
        refine wx_aload_n (i := 0) dX0_undoLatest_47 rfl rfl ?_
        refine wx_getRG (k := 17) (t := 18) dX0_undoLatest_48 zF_X0_9 zKo_17 rfl (Nat.le_of_ble_eq_true rfl) zRf_17_0 ?_
        refine wx_iload_n (i := 1) dX0_undoLatest_51 rfl rfl ?_
        refine wx_iload_n (i := 2) dX0_undoLatest_52 rfl rfl ?_
        refine wx_iadd dX0_undoLatest_53 ?_
        refine wx_dup2 dX0_undoLatest_54 rfl rfl ?_
        refine wx_ialdG (k := 18) (j := z + i - 2) dX0_undoLatest_55 zK_18 (Nat.le_of_ble_eq_true rfl) ?_ ?_ ?_
        · (simp only [zi_nI, zi_add] <;> first | done | exact congrArg zi (by omega))
        · exact ⟨by omega, by decide⟩
        refine wx_aload_n (i := 0) dX0_undoLatest_56 rfl rfl ?_
        refine wx_getRG (k := 17) (t := 27) dX0_undoLatest_57 zF_X0_32 zKo_17 rfl (Nat.le_of_ble_eq_true rfl) zRf_17_6 ?_
        refine wx_aload_n (i := 0) dX0_undoLatest_60 rfl rfl ?_
        refine wx_getIG (k := 17) dX0_undoLatest_61 zF_X0_39 zKo_17 rfl (Nat.le_of_ble_eq_true rfl) ?_
        refine wx_aaldG (k := 27) (j := k) dX0_undoLatest_64 zK_27 (Nat.le_of_ble_eq_true rfl) ?_ ?_ ?_
        · exact hks2
        · exact ⟨hk, by decide⟩
        refine wx_iload_n (i := 2) dX0_undoLatest_65 rfl rfl ?_
        refine wx_iconst (v := 2) dX0_undoLatest_66 (by decide) ?_
        refine wx_iadd dX0_undoLatest_67 ?_
        refine wx_ialdG (j := i) dX0_undoLatest_68 (zKin_27 _ (by omega)) (zKlt_27 _ (by omega)) ?_ ?_ ?_
        · (simp only [zl_2, zi_nI, zi_add, zi_sub] <;> first | done | exact congrArg zi (by omega))
        · exact ⟨by omega, by decide⟩
        refine wx_iadd dX0_undoLatest_69 ?_
        refine wx_iastG (k := 18) (j := z + i - 2) dX0_undoLatest_70 zK_18 (Nat.le_of_ble_eq_true rfl) ?_ ?_ ?_
        · (simp only [zi_nI, zi_add] <;> first | done | exact congrArg zi (by omega))
        · exact ⟨by omega, by decide⟩
        refine wx_inc (c := 1) dX0_undoLatest_71 rfl (by decide) (Nat.le_of_ble_eq_true rfl) rfl ?_
        refine wx_goto (tgt := 32) dX0_undoLatest_74 (by decide) ?_
        rw [zd_succ]
        first
          | (rw [etk, zUn_T (by assumption)]
             exact ih (i + 1) (by omega))
          | (rw [zUn_F (by assumption)]
             exact ih (i + 1) (by omega))
theorem s_X0_undoLatest {d : Nat} {K : List Value → zS → Prop} {mm : zM} {n z k : Nat} (hn : 4 ≤ n ∧ n ≤ 16) (hz : z < n) (hzn : mm 17 7 = nI n) (hk : k < 60) (hks : mm 17 8 = nI (k + 1)) (hkz : mm 25 k = nI z) (hK : K [] (zG (zUd mm n z k))) : wm (d + 2) mX0_undoLatest [.ref 17] (zG mm) K := by
  refine wm_of2 (L0 := [some (.ref 17), none, none]) zCm_X0_undoLatest (Or.inl rfl) (Nat.le_of_ble_eq_true rfl) rfl ?_
  have e8 : mm 17 8 - 1 = nI k := by rw [hks, nI_pred]
  have e25 : zU mm 17 8 (nI k) 25 k = nI z := (zU_off (by omega)).trans hkz
  refine wx_aload_n (i := 0) dX0_undoLatest_0 rfl rfl ?_
  refine wx_getIG (k := 17) dX0_undoLatest_1 zF_X0_39 zKo_17 rfl (Nat.le_of_ble_eq_true rfl) ?_
  refine wx_iconst (v := 1) dX0_undoLatest_4 (by decide) ?_
  refine wx_icmp_ge (tgt := 9) dX0_undoLatest_5 (by decide) (fun h5 => ?_) (fun h5 => ?_)
  · skip
    refine wx_aload_n (i := 0) dX0_undoLatest_9 rfl rfl ?_
    refine wx_dup dX0_undoLatest_10 rfl ?_
    refine wx_getIG (k := 17) dX0_undoLatest_11 zF_X0_39 zKo_17 rfl (Nat.le_of_ble_eq_true rfl) ?_
    refine wx_iconst (v := 1) dX0_undoLatest_14 (by decide) ?_
    refine wx_isub dX0_undoLatest_15 ?_
    refine wx_putIG (k := 17) dX0_undoLatest_16 zF_X0_39 zKo_17 rfl (Nat.le_of_ble_eq_true rfl) rfl rfl ?_
    refine wx_aload_n (i := 0) dX0_undoLatest_19 rfl rfl ?_
    refine wx_getRG (k := 17) (t := 25) dX0_undoLatest_20 zF_X0_26 zKo_17 rfl (Nat.le_of_ble_eq_true rfl) zRf_17_4 ?_
    refine wx_aload_n (i := 0) dX0_undoLatest_23 rfl rfl ?_
    refine wx_getIG (k := 17) dX0_undoLatest_24 zF_X0_39 zKo_17 rfl (Nat.le_of_ble_eq_true rfl) ?_
    refine wx_ialdG (k := 25) (j := k) dX0_undoLatest_27 zK_25 (Nat.le_of_ble_eq_true rfl) ?_ ?_ ?_
    · show zU mm 17 8 (mm 17 8 - 1) 17 8 = nI k
      rw [zU_same]; exact e8
    · exact ⟨hk, by decide⟩
    refine wx_istore_n (i := 1) dX0_undoLatest_28 rfl (Nat.le_of_ble_eq_true rfl) rfl ?_
    refine wx_bipush (v := (-2)) dX0_undoLatest_29 (by decide) ?_
    refine wx_istore_n (i := 2) dX0_undoLatest_31 rfl (Nat.le_of_ble_eq_true rfl) rfl ?_
    rw [e8, e25]
    have h := lp_undo (d := d) hn hz hzn hk hks hkz hK 5 0 (by omega)
    rw [zUn_0] at h
    exact h
  · exact absurd (by show (1 : Int32) ≤ mm 17 8; rw [hks]; exact nI_le (a := 1) (by omega) (by omega)) h5 --end
/-- a zone's height when the first i of the strokes have been done on h -/
def zRe (mm : zM) (z : Nat) (h : Int32) : Nat → Int32
  | 0 => h
  | i + 1 => zRe mm z h i - mm 26 i * zPu mm (mm 24 i).toNatClampNeg ((z : Int) - (mm 25 i).toInt)
theorem lp_replay {d : Nat} {K : List Value → zS → Prop} {mm : zM} {z k q : Nat} (hz : z < 16) (hk : k ≤ q) (hq : q ≤ 60) (hks : mm 17 8 = nI q) (ht : ∀ j, j < q → ∃ t, t < 3 ∧ mm 24 j = nI t) (hzz : ∀ j, j < q → ∃ w, w < 16 ∧ mm 25 j = nI w) (hK : K [.int (zRe mm z (mm 19 z) k)] (zG mm)) : ∀ c i : Nat, i + c = k → wx (d + 2) mX0_replayed 10 [some (.ref 17), some (.int (nI z)), some (.int (nI k)), some (.int (zRe mm z (mm 19 z) i)), some (.int (nI i)), none] [] (zG mm) K := by
  intro c
  induction c with
  | zero =>
    intro i hi
    have hin : i = k := by omega
    subst hin
    refine wx_iload dX0_replayed_10 rfl ?_
    refine wx_iload_n (i := 2) dX0_replayed_12 rfl rfl ?_
    refine wx_icmp_ge (tgt := 66) dX0_replayed_13 (by decide) (fun h13 => ?_) (fun h13 => ?_)
    · skip
      refine wx_iload_n (i := 3) dX0_replayed_66 rfl rfl ?_
      refine wx_iret dX0_replayed_67 rfl rfl (Or.inl rfl) ?_
      exact hK
    · exact absurd (nI_le (Nat.le_refl _) (by omega)) h13 --end
  | succ c ih =>
    intro i hi
    obtain ⟨t, htt, et⟩ := ht i (by omega)
    obtain ⟨w, hww, ew⟩ := hzz i (by omega)
    refine wx_iload dX0_replayed_10 rfl ?_
    refine wx_iload_n (i := 2) dX0_replayed_12 rfl rfl ?_
    refine wx_icmp_ge (tgt := 66) dX0_replayed_13 (by decide) (fun h13 => ?_) (fun h13 => ?_)
    · exact absurd h13 (nI_ge (by omega) (by omega)) --end
    · skip
      refine wx_iload dX0_replayed_16 rfl ?_
      refine wx_aload_n (i := 0) dX0_replayed_18 rfl rfl ?_
      refine wx_getIG (k := 17) dX0_replayed_19 zF_X0_39 zKo_17 rfl (Nat.le_of_ble_eq_true rfl) ?_
      refine wx_icmp_ge (tgt := 66) dX0_replayed_22 (by decide) (fun h22 => ?_) (fun h22 => ?_)
      · exact absurd h22 (by show ¬ mm 17 8 ≤ nI i; rw [hks]; exact nI_ge (by omega) (by omega)) --end
      · skip
        refine wx_iload_n (i := 1) dX0_replayed_25 rfl rfl ?_
        refine wx_aload_n (i := 0) dX0_replayed_26 rfl rfl ?_
        refine wx_getRG (k := 17) (t := 25) dX0_replayed_27 zF_X0_26 zKo_17 rfl (Nat.le_of_ble_eq_true rfl) zRf_17_4 ?_
        refine wx_iload dX0_replayed_30 rfl ?_
        refine wx_ialdG (k := 25) dX0_replayed_32 zK_25 (Nat.le_of_ble_eq_true rfl) rfl ?_ ?_
        · exact ⟨by omega, by decide⟩
        refine wx_isub dX0_replayed_33 ?_
        refine wx_istore dX0_replayed_34 (Nat.le_of_ble_eq_true rfl) rfl ?_
        refine wx_iload_n (i := 3) dX0_replayed_36 rfl rfl ?_
        refine wx_aload_n (i := 0) dX0_replayed_37 rfl rfl ?_
        refine wx_getRG (k := 17) (t := 26) dX0_replayed_38 zF_X0_29 zKo_17 rfl (Nat.le_of_ble_eq_true rfl) zRf_17_5 ?_
        refine wx_iload dX0_replayed_41 rfl ?_
        refine wx_ialdG (k := 26) dX0_replayed_43 zK_26 (Nat.le_of_ble_eq_true rfl) rfl ?_ ?_
        · exact ⟨by omega, by decide⟩
        refine wx_aload_n (i := 0) dX0_replayed_44 rfl rfl ?_
        refine wx_aload_n (i := 0) dX0_replayed_45 rfl rfl ?_
        refine wx_getRG (k := 17) (t := 24) dX0_replayed_46 zF_X0_23 zKo_17 rfl (Nat.le_of_ble_eq_true rfl) zRf_17_3 ?_
        refine wx_iload dX0_replayed_49 rfl ?_
        refine wx_ialdG (k := 24) dX0_replayed_51 zK_24 (Nat.le_of_ble_eq_true rfl) rfl ?_ ?_
        · exact ⟨by omega, by decide⟩
        refine wx_iload dX0_replayed_52 rfl ?_
        refine wx_V2 dX0_replayed_54 zPV_X0_pullOf zLk_X0_71 rfl (Nat.le_of_ble_eq_true rfl) (Nat.le_of_ble_eq_true rfl) (Or.inr rfl) ?_
        rw [et, ew, zi_nI z, zi_nI w, zi_sub]
        refine s_X0_pullOf htt (by omega) ?_
        refine wx_r1 ?_
        refine wx_imul dX0_replayed_57 ?_
        refine wx_isub dX0_replayed_58 ?_
        refine wx_istore_n (i := 3) dX0_replayed_59 rfl (Nat.le_of_ble_eq_true rfl) rfl ?_
        refine wx_inc (c := 1) dX0_replayed_60 rfl (by decide) (Nat.le_of_ble_eq_true rfl) rfl ?_
        refine wx_goto (tgt := 10) dX0_replayed_63 (by decide) ?_
        refine wx_weak 5 ?_
        rw [nI_1]
        have h := ih (i + 1) (by omega)
        rw [show zRe mm z (mm 19 z) (i + 1) = zRe mm z (mm 19 z) i - mm 26 i * zPu mm t ((z : Int) - (w : Int)) from by
          show _ - _ * zPu mm (mm 24 i).toNatClampNeg ((z : Int) - (mm 25 i).toInt) = _
          rw [et, ew, nI_clamp (by omega), nI_toInt (by omega)]] at h
        exact h
theorem s_X0_replayed {d : Nat} {K : List Value → zS → Prop} {mm : zM} {z k q : Nat} (hz : z < 16) (hk : k ≤ q) (hq : q ≤ 60) (hks : mm 17 8 = nI q) (ht : ∀ j, j < q → ∃ t, t < 3 ∧ mm 24 j = nI t) (hzz : ∀ j, j < q → ∃ w, w < 16 ∧ mm 25 j = nI w) (hK : K [.int (zRe mm z (mm 19 z) k)] (zG mm)) : wm (d + 2) mX0_replayed [.ref 17, .int (nI z), .int (nI k)] (zG mm) K := by
  refine wm_of2 (L0 := [some (.ref 17), some (.int (nI z)), some (.int (nI k)), none, none, none]) zCm_X0_replayed (Or.inl rfl) (Nat.le_of_ble_eq_true rfl) rfl ?_
  refine wx_aload_n (i := 0) dX0_replayed_0 rfl rfl ?_
  refine wx_getRG (k := 17) (t := 19) dX0_replayed_1 zF_X0_15 zKo_17 rfl (Nat.le_of_ble_eq_true rfl) zRf_17_1 ?_
  refine wx_iload_n (i := 1) dX0_replayed_4 rfl rfl ?_
  refine wx_ialdG (k := 19) dX0_replayed_5 zK_19 (Nat.le_of_ble_eq_true rfl) rfl ?_ ?_
  · exact ⟨hz, by decide⟩
  refine wx_istore_n (i := 3) dX0_replayed_6 rfl (Nat.le_of_ble_eq_true rfl) rfl ?_
  refine wx_iconst (v := 0) dX0_replayed_7 (by decide) ?_
  refine wx_istore dX0_replayed_8 (Nat.le_of_ble_eq_true rfl) rfl ?_
  exact lp_replay hz hk hq hks ht hzz hK k 0 (by omega)
theorem s_X0_begin {d : Nat} {K : List Value → zS → Prop} {mm : zM} (v : Int32) (hK : K [] (zG (zU (zU (va_up (zFl (zU mm 17 7 v) 18 16 0) 19 (va_cpy (zFl (zU mm 17 7 v) 18 16 0 18) (mm 19) 0 0 16)) 17 8 0) 17 10 (mm 17 10 + 1)))) : wm (d + 2) mX0_begin [.ref 17, .int v] (zG mm) K := by
  refine wm_of2 (L0 := [some (.ref 17), some (.int v)]) zCm_X0_begin (Or.inl rfl) (Nat.le_of_ble_eq_true rfl) rfl ?_
  refine wx_aload_n (i := 0) dX0_begin_0 rfl rfl ?_
  refine wx_iload_n (i := 1) dX0_begin_1 rfl rfl ?_
  refine wx_putIG (k := 17) dX0_begin_2 zF_X0_35 zKo_17 rfl (Nat.le_of_ble_eq_true rfl) rfl rfl ?_
  refine wx_aload_n (i := 0) dX0_begin_5 rfl rfl ?_
  refine wx_getRG (k := 17) (t := 18) dX0_begin_6 zF_X0_9 zKo_17 rfl (Nat.le_of_ble_eq_true rfl) zRf_17_0 ?_
  refine wx_iconst (v := 0) dX0_begin_9 (by decide) ?_
  refine wx_S2 dX0_begin_10 zPS_J7_fill_53178 zLk_X0_48 (Nat.le_of_ble_eq_true rfl) (Or.inr rfl) ?_
  refine s_J7_fillG zK_18 (by decide) (by decide) ?_
  refine wx_r0 ?_
  refine wx_aload_n (i := 0) dX0_begin_13 rfl rfl ?_
  refine wx_V0 dX0_begin_14 zPV_X0_keepAsTold zLk_X0_54 rfl (Nat.le_of_ble_eq_true rfl) (Nat.le_of_ble_eq_true rfl) (Or.inr rfl) ?_
  refine s_X0_keepAsTold ?_
  refine wx_r0 ?_
  refine wx_vret dX0_begin_17 rfl (Or.inl rfl) ?_
  exact hK
