/-! the bench -/
theorem zl_0 : (0 : Int32) = zi 0 := rfl
theorem zl_1 : (1 : Int32) = zi 1 := rfl
theorem zl_2 : (2 : Int32) = zi 2 := rfl
theorem zl_3 : (3 : Int32) = zi 3 := rfl
theorem zl_4 : (4 : Int32) = zi 4 := rfl
theorem zl_5 : (5 : Int32) = zi 5 := rfl
theorem zl_6 : (6 : Int32) = zi 6 := rfl
theorem zl_7 : (7 : Int32) = zi 7 := rfl
theorem zl_8 : (8 : Int32) = zi 8 := rfl
theorem zl_9 : (9 : Int32) = zi 9 := rfl
theorem zl_10 : (10 : Int32) = zi 10 := rfl
theorem zl_11 : (11 : Int32) = zi 11 := rfl
theorem zl_12 : (12 : Int32) = zi 12 := rfl
theorem zl_13 : (13 : Int32) = zi 13 := rfl
theorem zl_14 : (14 : Int32) = zi 14 := rfl
theorem zl_15 : (15 : Int32) = zi 15 := rfl
theorem zl_16 : (16 : Int32) = zi 16 := rfl
theorem zl_17 : (17 : Int32) = zi 17 := rfl
theorem zl_18 : (18 : Int32) = zi 18 := rfl
theorem zl_19 : (19 : Int32) = zi 19 := rfl
theorem zl_20 : (20 : Int32) = zi 20 := rfl
theorem zl_30 : (30 : Int32) = zi 30 := rfl
theorem zl_50 : (50 : Int32) = zi 50 := rfl
theorem zl_60 : (60 : Int32) = zi 60 := rfl
theorem zl_100 : (100 : Int32) = zi 100 := rfl
theorem zl_101 : (101 : Int32) = zi 101 := rfl
theorem zl_150 : (150 : Int32) = zi 150 := rfl
theorem zl_200 : (200 : Int32) = zi 200 := rfl
theorem zl_216 : (216 : Int32) = zi 216 := rfl
theorem zl_255 : (255 : Int32) = zi 255 := rfl
theorem zl_500 : (500 : Int32) = zi 500 := rfl
theorem zl_999 : (999 : Int32) = zi 999 := rfl
theorem zl_1000 : (1000 : Int32) = zi 1000 := rfl
theorem zl_1296 : (1296 : Int32) = zi 1296 := rfl
theorem zl_2000 : (2000 : Int32) = zi 2000 := rfl
theorem zl_2100 : (2100 : Int32) = zi 2100 := rfl
theorem zl_2101 : (2101 : Int32) = zi 2101 := rfl
theorem zl_5000 : (5000 : Int32) = zi 5000 := rfl
theorem zl_10000 : (10000 : Int32) = zi 10000 := rfl
theorem zl_100000 : (100000 : Int32) = zi 100000 := rfl
theorem zl_1000000 : (1000000 : Int32) = zi 1000000 := rfl
theorem zl_2000000 : (2000000 : Int32) = zi 2000000 := rfl
theorem zm_1 : (-1 : Int32) = zi (-1) := rfl
theorem zm_2 : (-2 : Int32) = zi (-2) := rfl
theorem zm_3 : (-3 : Int32) = zi (-3) := rfl
theorem zm_4 : (-4 : Int32) = zi (-4) := rfl
theorem zm_20 : (-20 : Int32) = zi (-20) := rfl
theorem zm_30 : (-30 : Int32) = zi (-30) := rfl
theorem zm_100 : (-100 : Int32) = zi (-100) := rfl
theorem zm_500 : (-500 : Int32) = zi (-500) := rfl
theorem zm_1000 : (-1000 : Int32) = zi (-1000) := rfl
theorem zm_10000 : (-10000 : Int32) = zi (-10000) := rfl
theorem zm_100000 : (-100000 : Int32) = zi (-100000) := rfl
theorem zm_1000000 : (-1000000 : Int32) = zi (-1000000) := rfl
theorem zm_1000002 : (-1000002 : Int32) = zi (-1000002) := rfl
theorem zm_1000003 : (-1000003 : Int32) = zi (-1000003) := rfl
/-- what a tool pulls at d -/
def zPu (mm : zM) (t : Nat) (x : Int) : Int32 := if -2 ≤ x ∧ x ≤ 2 then mm (20 + 1 + t) (x + 2).toNat else 0
theorem s_X0_heightOf {d : Nat} {K : List Value → zS → Prop} {mm : zM} {z : Nat} (hz : z < 16) (hK : K [.int (mm 18 z)] (zG mm)) : wm (d) mX0_heightOf [.ref 17, .int (nI z)] (zG mm) K := by
  refine wm_of2 (L0 := [some (.ref 17), some (.int (nI z))]) zCm_X0_heightOf (Or.inl rfl) (Nat.le_of_ble_eq_true rfl) rfl ?_
  refine wx_aload_n (i := 0) dX0_heightOf_0 rfl rfl ?_
  refine wx_getRG (k := 17) (t := 18) dX0_heightOf_1 zF_X0_9 zKo_17 rfl (Nat.le_of_ble_eq_true rfl) zRf_17_0 ?_
  refine wx_iload_n (i := 1) dX0_heightOf_4 rfl rfl ?_
  refine wx_ialdG (k := 18) dX0_heightOf_5 zK_18 (Nat.le_of_ble_eq_true rfl) rfl ?_ ?_
  · exact ⟨hz, by decide⟩
  refine wx_iret dX0_heightOf_6 rfl rfl (Or.inl rfl) ?_
  exact hK
theorem s_X0_howMany {d : Nat} {K : List Value → zS → Prop} {mm : zM} (hK : K [.int (mm 17 8)] (zG mm)) : wm (d) mX0_howMany [.ref 17] (zG mm) K := by
  refine wm_of2 (L0 := [some (.ref 17)]) zCm_X0_howMany (Or.inl rfl) (Nat.le_of_ble_eq_true rfl) rfl ?_
  refine wx_aload_n (i := 0) dX0_howMany_0 rfl rfl ?_
  refine wx_getIG (k := 17) dX0_howMany_1 zF_X0_39 zKo_17 rfl (Nat.le_of_ble_eq_true rfl) ?_
  refine wx_iret dX0_howMany_4 rfl rfl (Or.inl rfl) ?_
  exact hK
theorem s_X0_howManyChanges {d : Nat} {K : List Value → zS → Prop} {mm : zM} (hK : K [.int (mm 17 10)] (zG mm)) : wm (d) mX0_howManyChanges [.ref 17] (zG mm) K := by
  refine wm_of2 (L0 := [some (.ref 17)]) zCm_X0_howManyChanges (Or.inl rfl) (Nat.le_of_ble_eq_true rfl) rfl ?_
  refine wx_aload_n (i := 0) dX0_howManyChanges_0 rfl rfl ?_
  refine wx_getIG (k := 17) dX0_howManyChanges_1 zF_X0_45 zKo_17 rfl (Nat.le_of_ble_eq_true rfl) ?_
  refine wx_iret dX0_howManyChanges_4 rfl rfl (Or.inl rfl) ?_
  exact hK
theorem s_X0_howManyZones {d : Nat} {K : List Value → zS → Prop} {mm : zM} (hK : K [.int (mm 17 7)] (zG mm)) : wm (d) mX0_howManyZones [.ref 17] (zG mm) K := by
  refine wm_of2 (L0 := [some (.ref 17)]) zCm_X0_howManyZones (Or.inl rfl) (Nat.le_of_ble_eq_true rfl) rfl ?_
  refine wx_aload_n (i := 0) dX0_howManyZones_0 rfl rfl ?_
  refine wx_getIG (k := 17) dX0_howManyZones_1 zF_X0_35 zKo_17 rfl (Nat.le_of_ble_eq_true rfl) ?_
  refine wx_iret dX0_howManyZones_4 rfl rfl (Or.inl rfl) ?_
  exact hK
theorem s_X0_restOf {d : Nat} {K : List Value → zS → Prop} {mm : zM} (hK : K [.int (mm 17 9)] (zG mm)) : wm (d) mX0_restOf [.ref 17] (zG mm) K := by
  refine wm_of2 (L0 := [some (.ref 17)]) zCm_X0_restOf (Or.inl rfl) (Nat.le_of_ble_eq_true rfl) rfl ?_
  refine wx_aload_n (i := 0) dX0_restOf_0 rfl rfl ?_
  refine wx_getIG (k := 17) dX0_restOf_1 zF_X0_42 zKo_17 rfl (Nat.le_of_ble_eq_true rfl) ?_
  refine wx_iret dX0_restOf_4 rfl rfl (Or.inl rfl) ?_
  exact hK
theorem s_X0_roomLeft {d : Nat} {K : List Value → zS → Prop} {mm : zM} (hK : K [.int (60 - mm 17 8)] (zG mm)) : wm (d) mX0_roomLeft [.ref 17] (zG mm) K := by
  refine wm_of2 (L0 := [some (.ref 17)]) zCm_X0_roomLeft (Or.inl rfl) (Nat.le_of_ble_eq_true rfl) rfl ?_
  refine wx_bipush (v := 60) dX0_roomLeft_0 (by decide) ?_
  refine wx_aload_n (i := 0) dX0_roomLeft_2 rfl rfl ?_
  refine wx_getIG (k := 17) dX0_roomLeft_3 zF_X0_39 zKo_17 rfl (Nat.le_of_ble_eq_true rfl) ?_
  refine wx_isub dX0_roomLeft_6 ?_
  refine wx_iret dX0_roomLeft_7 rfl rfl (Or.inl rfl) ?_
  exact hK
theorem s_X0_keepAsTold {d : Nat} {K : List Value → zS → Prop} {mm : zM} (hK : K [] (zG (zU (zU (va_up mm 19 (va_cpy (mm 18) (mm 19) 0 0 16)) 17 8 0) 17 10 (mm 17 10 + 1)))) : wm (d + 1) mX0_keepAsTold [.ref 17] (zG mm) K := by
  refine wm_of2 (L0 := [some (.ref 17)]) zCm_X0_keepAsTold (Or.inl rfl) (Nat.le_of_ble_eq_true rfl) rfl ?_
  refine wx_aload_n (i := 0) dX0_keepAsTold_0 rfl rfl ?_
  refine wx_getRG (k := 17) (t := 18) dX0_keepAsTold_1 zF_X0_9 zKo_17 rfl (Nat.le_of_ble_eq_true rfl) zRf_17_0 ?_
  refine wx_iconst (v := 0) dX0_keepAsTold_4 (by decide) ?_
  refine wx_aload_n (i := 0) dX0_keepAsTold_5 rfl rfl ?_
  refine wx_getRG (k := 17) (t := 19) dX0_keepAsTold_6 zF_X0_15 zKo_17 rfl (Nat.le_of_ble_eq_true rfl) zRf_17_1 ?_
  refine wx_iconst (v := 0) dX0_keepAsTold_9 (by decide) ?_
  refine wx_bipush (v := 16) dX0_keepAsTold_10 (by decide) ?_
  refine wx_acopyG (x := 0) (y := 0) (z := 16) dX0_keepAsTold_12 zLk_X0_57 zAc_n zAc_s zAc_i zK_18 zK_19 (Nat.le_of_ble_eq_true rfl) (Nat.le_of_ble_eq_true rfl) (by decide) (by decide) (by decide) (by decide) (by decide) (by decide) (by decide) (by decide) (Nat.le_of_ble_eq_true rfl) ?_
  refine wx_aload_n (i := 0) dX0_keepAsTold_15 rfl rfl ?_
  refine wx_iconst (v := 0) dX0_keepAsTold_16 (by decide) ?_
  refine wx_putIG (k := 17) dX0_keepAsTold_17 zF_X0_39 zKo_17 rfl (Nat.le_of_ble_eq_true rfl) rfl rfl ?_
  refine wx_aload_n (i := 0) dX0_keepAsTold_20 rfl rfl ?_
  refine wx_dup dX0_keepAsTold_21 rfl ?_
  refine wx_getIG (k := 17) dX0_keepAsTold_22 zF_X0_45 zKo_17 rfl (Nat.le_of_ble_eq_true rfl) ?_
  refine wx_iconst (v := 1) dX0_keepAsTold_25 (by decide) ?_
  refine wx_iadd dX0_keepAsTold_26 ?_
  refine wx_putIG (k := 17) dX0_keepAsTold_27 zF_X0_45 zKo_17 rfl (Nat.le_of_ble_eq_true rfl) rfl rfl ?_
  refine wx_vret dX0_keepAsTold_30 rfl (Or.inl rfl) ?_
  exact hK
theorem s_X0_tellRest {d : Nat} {K : List Value → zS → Prop} {mm : zM} (v : Int32) (hK : K [.int (mm 17 9)] (zG (zU (zU mm 17 9 v) 17 10 (mm 17 10 + 1)))) : wm (d) mX0_tellRest [.ref 17, .int v] (zG mm) K := by
  refine wm_of2 (L0 := [some (.ref 17), some (.int v), none]) zCm_X0_tellRest (Or.inl rfl) (Nat.le_of_ble_eq_true rfl) rfl ?_
  refine wx_aload_n (i := 0) dX0_tellRest_0 rfl rfl ?_
  refine wx_getIG (k := 17) dX0_tellRest_1 zF_X0_42 zKo_17 rfl (Nat.le_of_ble_eq_true rfl) ?_
  refine wx_istore_n (i := 2) dX0_tellRest_4 rfl (Nat.le_of_ble_eq_true rfl) rfl ?_
  refine wx_aload_n (i := 0) dX0_tellRest_5 rfl rfl ?_
  refine wx_iload_n (i := 1) dX0_tellRest_6 rfl rfl ?_
  refine wx_putIG (k := 17) dX0_tellRest_7 zF_X0_42 zKo_17 rfl (Nat.le_of_ble_eq_true rfl) rfl rfl ?_
  refine wx_aload_n (i := 0) dX0_tellRest_10 rfl rfl ?_
  refine wx_dup dX0_tellRest_11 rfl ?_
  refine wx_getIG (k := 17) dX0_tellRest_12 zF_X0_45 zKo_17 rfl (Nat.le_of_ble_eq_true rfl) ?_
  refine wx_iconst (v := 1) dX0_tellRest_15 (by decide) ?_
  refine wx_iadd dX0_tellRest_16 ?_
  refine wx_putIG (k := 17) dX0_tellRest_17 zF_X0_45 zKo_17 rfl (Nat.le_of_ble_eq_true rfl) rfl rfl ?_
  refine wx_iload_n (i := 2) dX0_tellRest_20 rfl rfl ?_
  refine wx_iret dX0_tellRest_21 rfl rfl (Or.inl rfl) ?_
  exact hK
theorem s_X0_tellHeight {d : Nat} {K : List Value → zS → Prop} {mm : zM} {z : Nat} (v : Int32) (hz : z < 16) (hK : K [.int (mm 18 z)] (zG (zU (zU (va_up (zU mm 18 z v) 19 (va_cpy (zU mm 18 z v 18) (mm 19) 0 0 16)) 17 8 0) 17 10 (mm 17 10 + 1)))) : wm (d + 2) mX0_tellHeight [.ref 17, .int (nI z), .int v] (zG mm) K := by
  refine wm_of2 (L0 := [some (.ref 17), some (.int (nI z)), some (.int v), none]) zCm_X0_tellHeight (Or.inl rfl) (Nat.le_of_ble_eq_true rfl) rfl ?_
  refine wx_aload_n (i := 0) dX0_tellHeight_0 rfl rfl ?_
  refine wx_getRG (k := 17) (t := 18) dX0_tellHeight_1 zF_X0_9 zKo_17 rfl (Nat.le_of_ble_eq_true rfl) zRf_17_0 ?_
  refine wx_iload_n (i := 1) dX0_tellHeight_4 rfl rfl ?_
  refine wx_ialdG (k := 18) dX0_tellHeight_5 zK_18 (Nat.le_of_ble_eq_true rfl) rfl ?_ ?_
  · exact ⟨hz, by decide⟩
  refine wx_istore_n (i := 3) dX0_tellHeight_6 rfl (Nat.le_of_ble_eq_true rfl) rfl ?_
  refine wx_aload_n (i := 0) dX0_tellHeight_7 rfl rfl ?_
  refine wx_getRG (k := 17) (t := 18) dX0_tellHeight_8 zF_X0_9 zKo_17 rfl (Nat.le_of_ble_eq_true rfl) zRf_17_0 ?_
  refine wx_iload_n (i := 1) dX0_tellHeight_11 rfl rfl ?_
  refine wx_iload_n (i := 2) dX0_tellHeight_12 rfl rfl ?_
  refine wx_iastG (k := 18) dX0_tellHeight_13 zK_18 (Nat.le_of_ble_eq_true rfl) rfl ?_ ?_
  · exact ⟨hz, by decide⟩
  refine wx_aload_n (i := 0) dX0_tellHeight_14 rfl rfl ?_
  refine wx_V0 dX0_tellHeight_15 zPV_X0_keepAsTold zLk_X0_54 rfl (Nat.le_of_ble_eq_true rfl) (Nat.le_of_ble_eq_true rfl) (Or.inr rfl) ?_
  refine s_X0_keepAsTold ?_
  refine wx_r0 ?_
  refine wx_iload_n (i := 3) dX0_tellHeight_18 rfl rfl ?_
  refine wx_iret dX0_tellHeight_19 rfl rfl (Or.inl rfl) ?_
  exact hK
theorem s_X0_tellPull {d : Nat} {K : List Value → zS → Prop} {mm : zM} {t e : Nat} (v : Int32) (ht : t < 3) (he : e < 5) (hK : K [.int (mm (20 + 1 + t) e)] (zG (zU (zU mm (20 + 1 + t) e v) 17 10 (mm 17 10 + 1)))) : wm (d) mX0_tellPull [.ref 17, .int (nI t), .int (zi (e - 2)), .int v] (zG mm) K := by
  refine wm_of2 (L0 := [some (.ref 17), some (.int (nI t)), some (.int (zi (e - 2))), some (.int v), none]) zCm_X0_tellPull (Or.inl rfl) (Nat.le_of_ble_eq_true rfl) rfl ?_
  refine wx_aload_n (i := 0) dX0_tellPull_0 rfl rfl ?_
  refine wx_getRG (k := 17) (t := 20) dX0_tellPull_1 zF_X0_20 zKo_17 rfl (Nat.le_of_ble_eq_true rfl) zRf_17_2 ?_
  refine wx_iload_n (i := 1) dX0_tellPull_4 rfl rfl ?_
  refine wx_aaldG (k := 20) dX0_tellPull_5 zK_20 (Nat.le_of_ble_eq_true rfl) rfl ?_ ?_
  · exact ⟨ht, by decide⟩
  refine wx_iload_n (i := 2) dX0_tellPull_6 rfl rfl ?_
  refine wx_iconst (v := 2) dX0_tellPull_7 (by decide) ?_
  refine wx_iadd dX0_tellPull_8 ?_
  refine wx_ialdG (j := e) dX0_tellPull_9 (zKin_20 _ (by omega)) (zKlt_20 _ (by omega)) ?_ ?_ ?_
  · (simp only [zl_2, zi_nI, zi_add, zi_sub, zi_mul] <;> first | done | exact congrArg zi (by omega))
  · exact ⟨he, by decide⟩
  refine wx_istore dX0_tellPull_10 (Nat.le_of_ble_eq_true rfl) rfl ?_
  refine wx_aload_n (i := 0) dX0_tellPull_12 rfl rfl ?_
  refine wx_getRG (k := 17) (t := 20) dX0_tellPull_13 zF_X0_20 zKo_17 rfl (Nat.le_of_ble_eq_true rfl) zRf_17_2 ?_
  refine wx_iload_n (i := 1) dX0_tellPull_16 rfl rfl ?_
  refine wx_aaldG (k := 20) dX0_tellPull_17 zK_20 (Nat.le_of_ble_eq_true rfl) rfl ?_ ?_
  · exact ⟨ht, by decide⟩
  refine wx_iload_n (i := 2) dX0_tellPull_18 rfl rfl ?_
  refine wx_iconst (v := 2) dX0_tellPull_19 (by decide) ?_
  refine wx_iadd dX0_tellPull_20 ?_
  refine wx_iload_n (i := 3) dX0_tellPull_21 rfl rfl ?_
  refine wx_iastG (j := e) dX0_tellPull_22 (zKin_20 _ (by omega)) (zKlt_20 _ (by omega)) ?_ ?_ ?_
  · (simp only [zl_2, zi_nI, zi_add, zi_sub, zi_mul] <;> first | done | exact congrArg zi (by omega))
  · exact ⟨he, by decide⟩
  refine wx_aload_n (i := 0) dX0_tellPull_23 rfl rfl ?_
  refine wx_dup dX0_tellPull_24 rfl ?_
  refine wx_getIG (k := 17) dX0_tellPull_25 zF_X0_45 zKo_17 rfl (Nat.le_of_ble_eq_true rfl) ?_
  refine wx_iconst (v := 1) dX0_tellPull_28 (by decide) ?_
  refine wx_iadd dX0_tellPull_29 ?_
  refine wx_putIG (k := 17) dX0_tellPull_30 zF_X0_45 zKo_17 rfl (Nat.le_of_ble_eq_true rfl) rfl rfl ?_
  refine wx_iload dX0_tellPull_33 rfl ?_
  refine wx_iret dX0_tellPull_35 rfl rfl (Or.inl rfl) ?_
  refine zk (P := fun q => K [.int (mm (20 + 1 + t) e)] (zG (zU (zU mm (20 + 1 + t) e v) 17 10 q))) hK ?_
  exact (congrArg (fun x => x + 1) (zU_off (fun q => by omega))).symm
theorem s_X0_pullOf {d : Nat} {K : List Value → zS → Prop} {mm : zM} {t : Nat} {x : Int} (ht : t < 3) (hx : -1000 ≤ x ∧ x ≤ 1000) (hK : K [.int (zPu mm t x)] (zG mm)) : wm (d + 1) mX0_pullOf [.ref 17, .int (nI t), .int (zi x)] (zG mm) K := by
  refine wm_of2 (L0 := [some (.ref 17), some (.int (nI t)), some (.int (zi x))]) zCm_X0_pullOf (Or.inl rfl) (Nat.le_of_ble_eq_true rfl) rfl ?_
  refine wx_iload_n (i := 2) dX0_pullOf_0 rfl rfl ?_
  refine wx_bipush (v := (-2)) dX0_pullOf_1 (by decide) ?_
  refine wx_iconst (v := 2) dX0_pullOf_3 (by decide) ?_
  refine wx_SN3 dX0_pullOf_4 zPS_X8_within zLn_X0_63 (Nat.le_of_ble_eq_true rfl) (Or.inr rfl) ?_
  refine s_X8_within _ _ _ ?_
  refine wx_r1 ?_
  refine wx_eqb (tgt := 23) dX0_pullOf_7 (by decide) (fun h7 => ?_) (fun h7 => ?_)
  · have h7 : ¬ (-2 ≤ x ∧ x ≤ 2) := fun q => h7 (by rw [zm_2, zi_le (by omega) (by omega), zl_2, zi_le (by omega) (by omega)]; exact q)
    refine wx_iconst (v := 0) dX0_pullOf_23 (by decide) ?_
    refine wx_iret dX0_pullOf_24 rfl rfl (Or.inl rfl) ?_
    first | exact zki hK (if_pos h7) | exact zki hK (if_neg h7)
  · have h7 : -2 ≤ x ∧ x ≤ 2 := by rw [zm_2, zi_le (by omega) (by omega), zl_2, zi_le (by omega) (by omega)] at h7; exact h7
    refine wx_aload_n (i := 0) dX0_pullOf_10 rfl rfl ?_
    refine wx_getRG (k := 17) (t := 20) dX0_pullOf_11 zF_X0_20 zKo_17 rfl (Nat.le_of_ble_eq_true rfl) zRf_17_2 ?_
    refine wx_iload_n (i := 1) dX0_pullOf_14 rfl rfl ?_
    refine wx_aaldG (k := 20) dX0_pullOf_15 zK_20 (Nat.le_of_ble_eq_true rfl) rfl ?_ ?_
    · exact ⟨ht, by decide⟩
    refine wx_iload_n (i := 2) dX0_pullOf_16 rfl rfl ?_
    refine wx_iconst (v := 2) dX0_pullOf_17 (by decide) ?_
    refine wx_iadd dX0_pullOf_18 ?_
    refine wx_ialdG (j := (x + 2).toNat) dX0_pullOf_19 (zKin_20 _ (by omega)) (zKlt_20 _ (by omega)) ?_ ?_ ?_
    · (simp only [zl_2, zi_nI, zi_add, zi_sub, zi_mul] <;> first | done | exact congrArg zi (by omega))
    · exact ⟨by omega, by decide⟩
    refine wx_goto (tgt := 24) dX0_pullOf_20 (by decide) ?_
    refine wx_iret dX0_pullOf_24 rfl rfl (Or.inl rfl) ?_
    first | exact zki hK (if_pos h7) | exact zki hK (if_neg h7)
/-- the sum of the first i -/
def zMs (f : Nat → Int32) : Nat → Int32
  | 0 => 0
  | i + 1 => zMs f i + f i
theorem lp_minutes {d : Nat} {K : List Value → zS → Prop} {mm : zM} {n : Nat} (hs : mm 17 8 = nI n) (hn : n ≤ 60) (hK : K [.int (zMs (mm 26) n)] (zG mm)) : ∀ c i : Nat, i + c = n → wx (d) mX0_minutesTogether 4 [some (.ref 17), some (.int (zMs (mm 26) i)), some (.int (nI i))] [] (zG mm) K := by
  intro c
  induction c with
  | zero =>
    intro i hi 
    refine wx_iload_n (i := 2) dX0_minutesTogether_4 rfl rfl ?_
    refine wx_aload_n (i := 0) dX0_minutesTogether_5 rfl rfl ?_
    refine wx_getIG (k := 17) dX0_minutesTogether_6 zF_X0_39 zKo_17 rfl (Nat.le_of_ble_eq_true rfl) ?_
    refine wx_icmp_ge (tgt := 27) dX0_minutesTogether_9 (by decide) (fun h9 => ?_) (fun h9 => ?_)
    · skip
      have hin : i = n := by omega
      subst hin
      refine wx_iload_n (i := 1) dX0_minutesTogether_27 rfl rfl ?_
      refine wx_iret dX0_minutesTogether_28 rfl rfl (Or.inl rfl) ?_
      exact hK
    · exact absurd (by show mm 17 8 ≤ nI i; rw [hs]; exact nI_le (by omega) (by omega)) h9 --end
  | succ c ih =>
    intro i hi 
    refine wx_iload_n (i := 2) dX0_minutesTogether_4 rfl rfl ?_
    refine wx_aload_n (i := 0) dX0_minutesTogether_5 rfl rfl ?_
    refine wx_getIG (k := 17) dX0_minutesTogether_6 zF_X0_39 zKo_17 rfl (Nat.le_of_ble_eq_true rfl) ?_
    refine wx_icmp_ge (tgt := 27) dX0_minutesTogether_9 (by decide) (fun h9 => ?_) (fun h9 => ?_)
    · exact absurd h9 (by show ¬ mm 17 8 ≤ nI i; rw [hs]; exact nI_ge (by omega) (by omega)) --end
    · skip
      refine wx_iload_n (i := 1) dX0_minutesTogether_12 rfl rfl ?_
      refine wx_aload_n (i := 0) dX0_minutesTogether_13 rfl rfl ?_
      refine wx_getRG (k := 17) (t := 26) dX0_minutesTogether_14 zF_X0_29 zKo_17 rfl (Nat.le_of_ble_eq_true rfl) zRf_17_5 ?_
      refine wx_iload_n (i := 2) dX0_minutesTogether_17 rfl rfl ?_
      refine wx_ialdG (k := 26) dX0_minutesTogether_18 zK_26 (Nat.le_of_ble_eq_true rfl) rfl ?_ ?_
      · exact ⟨by omega, by decide⟩
      refine wx_iadd dX0_minutesTogether_19 ?_
      refine wx_istore_n (i := 1) dX0_minutesTogether_20 rfl (Nat.le_of_ble_eq_true rfl) rfl ?_
      refine wx_inc (c := 1) dX0_minutesTogether_21 rfl (by decide) (Nat.le_of_ble_eq_true rfl) rfl ?_
      refine wx_goto (tgt := 4) dX0_minutesTogether_24 (by decide) ?_
      rw [nI_1]
      exact ih (i + 1) (by omega)
theorem s_X0_minutesTogether {d : Nat} {K : List Value → zS → Prop} {mm : zM} {n : Nat} (hs : mm 17 8 = nI n) (hn : n ≤ 60) (hK : K [.int (zMs (mm 26) n)] (zG mm)) : wm (d) mX0_minutesTogether [.ref 17] (zG mm) K := by
  refine wm_of2 (L0 := [some (.ref 17), none, none]) zCm_X0_minutesTogether (Or.inl rfl) (Nat.le_of_ble_eq_true rfl) rfl ?_
  refine wx_iconst (v := 0) dX0_minutesTogether_0 (by decide) ?_
  refine wx_istore_n (i := 1) dX0_minutesTogether_1 rfl (Nat.le_of_ble_eq_true rfl) rfl ?_
  refine wx_iconst (v := 0) dX0_minutesTogether_2 (by decide) ?_
  refine wx_istore_n (i := 2) dX0_minutesTogether_3 rfl (Nat.le_of_ble_eq_true rfl) rfl ?_
  exact lp_minutes hs hn hK n 0 (by omega)
/-- zone z + (e - 2) is there -/
def zTh (n z e : Nat) : Prop := 2 ≤ z + e ∧ z + e < n + 2
/-- a stroke would sink the zone at e -/
def zSk (mm : zM) (n z : Nat) (m : Int32) (p : Nat → Int32) (h : Nat → Int32) (e : Nat) : Prop := zTh n z e ∧ h (z + e - 2) - m * p e < -100000
theorem zTh_i {n z e : Nat} (hn : n ≤ 16) (hz : z < n) (he : e < 5) (x : Int32) (hx : x = nI n) : (0 ≤ nI z + zi ((e : Int) - 2) ∧ nI z + zi ((e : Int) - 2) ≤ x - 1) ↔ zTh n z e := by
  subst hx
  unfold zTh
  rw [zi_nI, zi_nI, zi_add, zl_1, zi_sub, zl_0, zi_le (by omega) (by omega), zi_le (by omega) (by omega)]
  omega
theorem zd_succ (e : Nat) : zi ((e : Int) - 2) + 1 = zi (((e + 1 : Nat) : Int) - 2) := by
  rw [zl_1, zi_add]
  exact congrArg zi (by omega)
theorem zPu_in (mm : zM) {t e : Nat} (he : e < 5) : zPu mm t ((e : Int) - 2) = mm (20 + 1 + t) e := by
  unfold zPu
  rw [if_pos (by omega)]
  exact congrArg _ (by omega)
theorem lp_sink {d : Nat} {K : List Value → zS → Prop} {mm : zM} {n z t : Nat} {m : Int32} (hn : 4 ≤ n ∧ n ≤ 16) (hz : z < n) (ht : t < 3) (hzn : mm 17 7 = nI n) (h1 : (∃ e, e < 5 ∧ zSk mm n z m (mm (20 + 1 + t)) (mm 18) e) → K [.int 1] (zG mm)) (h0 : ¬ (∃ e, e < 5 ∧ zSk mm n z m (mm (20 + 1 + t)) (mm 18) e) → K [.int 0] (zG mm)) : ∀ c i : Nat, i + c = 5 → (∀ e, e < i → ¬ zSk mm n z m (mm (20 + 1 + t)) (mm 18) e) → wx (d + 2) mX0_wouldSink 4 [some (.ref 17), some (.int (nI t)), some (.int (nI z)), some (.int m), some (.int (zi ((i : Int) - 2)))] [] (zG mm) K := by
  intro c
  induction c with
  | zero =>
    intro i hi hno
    refine wx_iload dX0_wouldSink_4 rfl ?_
    refine wx_iconst (v := 2) dX0_wouldSink_6 (by decide) ?_
    refine wx_icmp_gt (tgt := 53) dX0_wouldSink_7 (by decide) (fun h7 => ?_) (fun h7 => ?_)
    · skip
      refine wx_iconst (v := 0) dX0_wouldSink_53 (by decide) ?_
      refine wx_iret dX0_wouldSink_54 rfl rfl (Or.inl rfl) (h0 (fun q => ?_))
      obtain ⟨e, he, h⟩ := q
      exact hno e (by omega) h
    · exact absurd (by rw [zl_2]; exact (zi_lt (by omega) (by omega)).mpr (by omega)) h7 --end
  | succ c ih =>
    intro i hi hno
    have he : i < 5 := by omega
    refine wx_iload dX0_wouldSink_4 rfl ?_
    refine wx_iconst (v := 2) dX0_wouldSink_6 (by decide) ?_
    refine wx_icmp_gt (tgt := 53) dX0_wouldSink_7 (by decide) (fun h7 => ?_) (fun h7 => ?_)
    · exact absurd h7 (by rw [zl_2, zi_lt (by omega) (by omega)]; omega) --end
    · skip
      refine wx_aload_n (i := 0) dX0_wouldSink_10 rfl rfl ?_
      refine wx_iload_n (i := 2) dX0_wouldSink_11 rfl rfl ?_
      refine wx_iload dX0_wouldSink_12 rfl ?_
      refine wx_iadd dX0_wouldSink_14 ?_
      refine wx_V1 dX0_wouldSink_15 zPV_X0_isThere zLk_X0_67 rfl (Nat.le_of_ble_eq_true rfl) (Nat.le_of_ble_eq_true rfl) (Or.inr rfl) ?_
      refine s_X0_isThere _ ?_
      refine wx_r1 ?_
      refine wx_eqb (tgt := 47) dX0_wouldSink_18 (by decide) (fun h18 => ?_) (fun h18 => ?_)
      · rw [zTh_i hn.2 hz he _ hzn] at h18
        refine wx_inc (c := 1) dX0_wouldSink_47 rfl (by decide) (Nat.le_of_ble_eq_true rfl) rfl ?_
        refine wx_goto (tgt := 4) dX0_wouldSink_50 (by decide) ?_
        rw [zd_succ]
        refine ih (i + 1) (by omega) (fun e h => ?_)
        rcases Nat.lt_or_ge e i with q | q
        · exact hno e q
        · rw [show e = i by omega]
          first | exact hs | exact fun w => h18 w.1
      · rw [zTh_i hn.2 hz he _ hzn] at h18
        have hth : zTh n z i := h18
        unfold zTh at h18
        refine wx_aload_n (i := 0) dX0_wouldSink_21 rfl rfl ?_
        refine wx_getRG (k := 17) (t := 18) dX0_wouldSink_22 zF_X0_9 zKo_17 rfl (Nat.le_of_ble_eq_true rfl) zRf_17_0 ?_
        refine wx_iload_n (i := 2) dX0_wouldSink_25 rfl rfl ?_
        refine wx_iload dX0_wouldSink_26 rfl ?_
        refine wx_iadd dX0_wouldSink_28 ?_
        refine wx_ialdG (k := 18) (j := z + i - 2) dX0_wouldSink_29 zK_18 (Nat.le_of_ble_eq_true rfl) ?_ ?_ ?_
        · (simp only [zi_nI, zi_add] <;> first | done | exact congrArg zi (by omega))
        · exact ⟨by omega, by decide⟩
        refine wx_iload_n (i := 3) dX0_wouldSink_30 rfl rfl ?_
        refine wx_aload_n (i := 0) dX0_wouldSink_31 rfl rfl ?_
        refine wx_iload_n (i := 1) dX0_wouldSink_32 rfl rfl ?_
        refine wx_iload dX0_wouldSink_33 rfl ?_
        refine wx_V2 dX0_wouldSink_35 zPV_X0_pullOf zLk_X0_71 rfl (Nat.le_of_ble_eq_true rfl) (Nat.le_of_ble_eq_true rfl) (Or.inr rfl) ?_
        refine s_X0_pullOf ht (by omega) ?_
        rw [zPu_in mm he]
        refine wx_r1 ?_
        refine wx_imul dX0_wouldSink_38 ?_
        refine wx_isub dX0_wouldSink_39 ?_
        refine wx_ldc dX0_wouldSink_40 zKc_X0_75 ?_
        refine wx_icmp_ge (tgt := 47) dX0_wouldSink_42 (by decide) (fun h42 => ?_) (fun h42 => ?_)
        · have hs : ¬ zSk mm n z m (mm (20 + 1 + t)) (mm 18) i := fun q => z_ltn q.2 h42
          refine wx_inc (c := 1) dX0_wouldSink_47 rfl (by decide) (Nat.le_of_ble_eq_true rfl) rfl ?_
          refine wx_goto (tgt := 4) dX0_wouldSink_50 (by decide) ?_
          rw [zd_succ]
          refine ih (i + 1) (by omega) (fun e h => ?_)
          rcases Nat.lt_or_ge e i with q | q
          · exact hno e q
          · rw [show e = i by omega]
            first | exact hs | exact fun w => h18 w.1
        · skip
          refine wx_iconst (v := 1) dX0_wouldSink_45 (by decide) ?_
          refine wx_iret dX0_wouldSink_46 rfl rfl (Or.inl rfl) ?_
          exact h1 ⟨i, he, hth, z_nle h42⟩
theorem s_X0_wouldSink {d : Nat} {K : List Value → zS → Prop} {mm : zM} {n z t : Nat} {m : Int32} (hn : 4 ≤ n ∧ n ≤ 16) (hz : z < n) (ht : t < 3) (hzn : mm 17 7 = nI n) (h1 : (∃ e, e < 5 ∧ zSk mm n z m (mm (20 + 1 + t)) (mm 18) e) → K [.int 1] (zG mm)) (h0 : ¬ (∃ e, e < 5 ∧ zSk mm n z m (mm (20 + 1 + t)) (mm 18) e) → K [.int 0] (zG mm)) : wm (d + 2) mX0_wouldSink [.ref 17, .int (nI t), .int (nI z), .int m] (zG mm) K := by
  refine wm_of2 (L0 := [some (.ref 17), some (.int (nI t)), some (.int (nI z)), some (.int m), none]) zCm_X0_wouldSink (Or.inl rfl) (Nat.le_of_ble_eq_true rfl) rfl ?_
  refine wx_bipush (v := (-2)) dX0_wouldSink_0 (by decide) ?_
  refine wx_istore dX0_wouldSink_2 (Nat.le_of_ble_eq_true rfl) rfl ?_
  exact lp_sink hn hz ht hzn h1 h0 5 0 (by omega) (fun e h => absurd h (Nat.not_lt_zero e))
theorem wx_weak {d : Nat} {M : zMt} {pc : Nat} {L : List (Option Value)} {st : List Value} {σ : zS} {K : List Value → zS → Prop} (i : Nat) (h : wx d M pc (L.set i none) st σ K) : wx d M pc L st σ K := by
  intro X p l e R s m args below meth c Q nn hC hn hr H locs ls hW hS hl
  refine h X p l e R s m args below meth c Q nn hC hn hr H locs ls hW hS ⟨hl.1, hl.2.1, fun q hq => hl.2.2 q ?_⟩
  obtain ⟨v, h1, h2⟩ := zPairs_mem hq
  have e : L[q.1]? = some (some v) := by
    by_cases z : q.1 = i
    · rw [z] at h1
      have hlt : i < L.length := by have := (List.getElem?_eq_some_iff.mp h1).1; rwa [List.length_set] at this
      rw [List.getElem?_set_self hlt] at h1
      cases h1
    · rw [List.getElem?_set_ne (fun w => z w.symm)] at h1
      exact h1
  have := zPairs_in (X := X) e
  rw [← h2] at this
  exact this
theorem zkm {K : List Value → zS → Prop} {r : List Value} {a b : zM} (h : K r (zG a)) (e : a = b) : K r (zG b) := e ▸ h
/-- heights when the first e places of a stroke are done -/
def zHt (n z : Nat) (m : Int32) (p h : Nat → Int32) (e : Nat) : Nat → Int32 := fun i => if i < n ∧ z ≤ i + 2 ∧ i + 2 < z + e then h i - m * p (i + 2 - z) else h i
/-- what a stroke takes at e -/
noncomputable def zTk (n z : Nat) (m : Int32) (p : Nat → Int32) (e : Nat) : Int32 := if 2 ≤ z + e ∧ z + e < n + 2 then m * p e else 0
noncomputable def zSt (mm : zM) (ck ch n z : Nat) (m : Int32) (p : Nat → Int32) (e : Nat) : zM := va_up (va_up mm ck (fun j => if j < e then zTk n z m p j else mm ck j)) ch (zHt n z m p (mm ch) e)
theorem zHt_0 (n z : Nat) (m : Int32) (p h : Nat → Int32) : zHt n z m p h 0 = h := by
  funext i
  unfold zHt
  rw [if_neg (by omega)]
theorem zSt_0 (mm : zM) (ck ch n z : Nat) (m : Int32) (p : Nat → Int32) (hne : ck ≠ ch) : zSt mm ck ch n z m p 0 = mm := by
  funext a
  unfold zSt
  rw [zHt_0]
  by_cases h : a = ch
  · subst h; simp [va_up]
  · by_cases g : a = ck
    · subst g; simp [va_up, h]
    · simp [va_up, h, g]
theorem zHt_succ {n z e : Nat} {m : Int32} {p h : Nat → Int32} (hth : zTh n z e) : upd (zHt n z m p h e) (z + e - 2) (zHt n z m p h e (z + e - 2) - m * p e) = zHt n z m p h (e + 1) := by
  unfold zTh at hth
  funext i
  unfold upd zHt
  by_cases q : i = z + e - 2
  · rw [if_pos q, if_neg (by omega), if_pos (by omega), q]
    rw [show z + e - 2 + 2 - z = e by omega]
  · rw [if_neg q]
    by_cases g : i < n ∧ z ≤ i + 2 ∧ i + 2 < z + e
    · rw [if_pos g, if_pos (by omega)]
    · rw [if_neg g, if_neg (by omega)]
theorem zHt_same {n z e : Nat} {m : Int32} {p h : Nat → Int32} (hth : ¬ zTh n z e) : zHt n z m p h e = zHt n z m p h (e + 1) := by
  unfold zTh at hth
  funext i
  unfold zHt
  by_cases g : i < n ∧ z ≤ i + 2 ∧ i + 2 < z + e
  · rw [if_pos g, if_pos (by omega)]
  · rw [if_neg g, if_neg (by omega)]
theorem zSt_T {mm : zM} {ck ch n z e : Nat} {m : Int32} {p : Nat → Int32} (hne : ck ≠ ch) (hth : zTh n z e) : zU (zU (zSt mm ck ch n z m p e) ck e (m * p e)) ch (z + e - 2) (zSt mm ck ch n z m p e ch (z + e - 2) - m * p e) = zSt mm ck ch n z m p (e + 1) := by
  funext a
  by_cases h : a = ch
  · subst h
    have e1 : zSt mm ck a n z m p e a = zHt n z m p (mm a) e := by simp [zSt, va_up]
    have e2 : zSt mm ck a n z m p (e + 1) a = zHt n z m p (mm a) (e + 1) := by simp [zSt, va_up]
    rw [zU_at, zU_ne (Ne.symm hne), e1, e2, zHt_succ hth]
  · rw [zU_ne h]
    by_cases g : a = ck
    · subst g
      rw [zU_at]
      have e1 : ∀ q, zSt mm a ch n z m p q a = fun j => if j < q then zTk n z m p j else mm a j := fun q => by simp [zSt, va_up, h]
      rw [e1, e1]
      funext j
      unfold upd
      by_cases q : j = e
      · subst q
        rw [if_pos rfl, if_pos (by omega)]
        unfold zTk
        rw [if_pos (show 2 ≤ z + j ∧ z + j < n + 2 from hth)]
      · rw [if_neg q]
        show (if j < e then zTk n z m p j else mm a j) = _
        by_cases w : j < e
        · rw [if_pos w, if_pos (by omega)]
        · rw [if_neg w, if_neg (by omega)]
    · rw [zU_ne g]
      simp [zSt, va_up, h, g]
theorem zSt_F {mm : zM} {ck ch n z e : Nat} {m : Int32} {p : Nat → Int32} (hne : ck ≠ ch) (hth : ¬ zTh n z e) : zU (zSt mm ck ch n z m p e) ck e 0 = zSt mm ck ch n z m p (e + 1) := by
  funext a
  by_cases h : a = ch
  · subst h
    rw [zU_ne (Ne.symm hne)]
    simp only [zSt, va_up, if_true]
    exact zHt_same hth
  · by_cases g : a = ck
    · subst g
      rw [zU_at]
      have e1 : ∀ q, zSt mm a ch n z m p q a = fun j => if j < q then zTk n z m p j else mm a j := fun q => by simp [zSt, va_up, h]
      rw [e1, e1]
      funext j
      unfold upd
      by_cases q : j = e
      · subst q
        rw [if_pos rfl, if_pos (by omega)]
        unfold zTk
        rw [if_neg (show ¬ (2 ≤ z + j ∧ z + j < n + 2) from hth)]
      · rw [if_neg q]
        show (if j < e then zTk n z m p j else mm a j) = _
        by_cases w : j < e
        · rw [if_pos w, if_pos (by omega)]
        · rw [if_neg w, if_neg (by omega)]
    · rw [zU_ne g]
      simp [zSt, va_up, h, g]
theorem zSt_off {mm : zM} {ck ch n z e a : Nat} {m : Int32} {p : Nat → Int32} (h1 : a ≠ ck) (h2 : a ≠ ch) : zSt mm ck ch n z m p e a = mm a := by simp [zSt, va_up, h1, h2]
theorem zSt_ch {mm : zM} {ck ch n z e : Nat} {m : Int32} {p : Nat → Int32} : zSt mm ck ch n z m p e ch = zHt n z m p (mm ch) e := by simp [zSt, va_up]
theorem lp_do {d : Nat} {K : List Value → zS → Prop} {mm : zM} {n z t : Nat} {m : Int32} (hn : 4 ≤ n ∧ n ≤ 16) (hz : z < n) (ht : t < 3) (hzn : mm 17 7 = nI n) {k : Nat} (hk : k < 60) (hks : mm 17 8 = nI k) (hx : wx (d + 2) mX0_doStroke 93 [some (.ref 17), some (.int (nI t)), some (.int (nI z)), some (.int m), none, none] [] (zG (zSt mm (27 + 1 + k) 18 n z m (mm (20 + 1 + t)) 5)) K) : ∀ c i : Nat, i + c = 5 → wx (d + 2) mX0_doStroke 14 [some (.ref 17), some (.int (nI t)), some (.int (nI z)), some (.int m), some (.int (zi ((i : Int) - 2))), none] [] (zG (zSt mm (27 + 1 + k) 18 n z m (mm (20 + 1 + t)) i)) K := by
  intro c
  induction c with
  | zero =>
    intro i hi
    have hin : i = 5 := by omega
    subst hin
    refine wx_iload dX0_doStroke_14 rfl ?_
    refine wx_iconst (v := 2) dX0_doStroke_16 (by decide) ?_
    refine wx_icmp_gt (tgt := 93) dX0_doStroke_17 (by decide) (fun h17 => ?_) (fun h17 => ?_)
    · skip
      refine wx_weak 4 ?_
      exact hx
    · exact absurd (by rw [zl_2]; exact (zi_lt (by omega) (by omega)).mpr (by omega)) h17 --end
  | succ c ih =>
    intro i hi
    have he : i < 5 := by omega
    have ep : zSt mm (27 + 1 + k) 18 n z m (mm (20 + 1 + t)) i (20 + 1 + t) = mm (20 + 1 + t) := zSt_off (by omega) (by omega)
    have e17 : zSt mm (27 + 1 + k) 18 n z m (mm (20 + 1 + t)) i 17 = mm 17 := zSt_off (by omega) (by omega)
    have hzn2 : zSt mm (27 + 1 + k) 18 n z m (mm (20 + 1 + t)) i 17 7 = nI n := by rw [e17]; exact hzn
    have hks2 : zSt mm (27 + 1 + k) 18 n z m (mm (20 + 1 + t)) i 17 8 = nI k := by rw [e17]; exact hks
    refine wx_iload dX0_doStroke_14 rfl ?_
    refine wx_iconst (v := 2) dX0_doStroke_16 (by decide) ?_
    refine wx_icmp_gt (tgt := 93) dX0_doStroke_17 (by decide) (fun h17 => ?_) (fun h17 => ?_)
    · exact absurd h17 (by rw [zl_2, zi_lt (by omega) (by omega)]; omega) --end
    · skip
      refine wx_aload_n (i := 0) dX0_doStroke_20 rfl rfl ?_
      refine wx_iload_n (i := 2) dX0_doStroke_21 rfl rfl ?_
      refine wx_iload dX0_doStroke_22 rfl ?_
      refine wx_iadd dX0_doStroke_24 ?_
      refine wx_V1 dX0_doStroke_25 zPV_X0_isThere zLk_X0_67 rfl (Nat.le_of_ble_eq_true rfl) (Nat.le_of_ble_eq_true rfl) (Or.inr rfl) ?_
      refine s_X0_isThere _ ?_
      refine wx_r1 ?_
      refine wx_eqb (tgt := 43) dX0_doStroke_28 (by decide) (fun h28 => ?_) (fun h28 => ?_)
      · rw [zTh_i hn.2 hz he _ hzn2] at h28
        refine wx_iconst (v := 0) dX0_doStroke_43 (by decide) ?_
        refine wx_istore dX0_doStroke_44 (Nat.le_of_ble_eq_true rfl) rfl ?_
        refine wx_aload_n (i := 0) dX0_doStroke_46 rfl rfl ?_
        refine wx_getRG (k := 17) (t := 27) dX0_doStroke_47 zF_X0_32 zKo_17 rfl (Nat.le_of_ble_eq_true rfl) zRf_17_6 ?_
        refine wx_aload_n (i := 0) dX0_doStroke_50 rfl rfl ?_
        refine wx_getIG (k := 17) dX0_doStroke_51 zF_X0_39 zKo_17 rfl (Nat.le_of_ble_eq_true rfl) ?_
        refine wx_aaldG (k := 27) (j := k) dX0_doStroke_54 zK_27 (Nat.le_of_ble_eq_true rfl) ?_ ?_ ?_
        · exact hks2
        · exact ⟨hk, by decide⟩
        refine wx_iload dX0_doStroke_55 rfl ?_
        refine wx_iconst (v := 2) dX0_doStroke_57 (by decide) ?_
        refine wx_iadd dX0_doStroke_58 ?_
        refine wx_iload dX0_doStroke_59 rfl ?_
        refine wx_iastG (j := i) dX0_doStroke_61 (zKin_27 _ (by omega)) (zKlt_27 _ (by omega)) ?_ ?_ ?_
        · (simp only [zl_2, zi_nI, zi_add, zi_sub] <;> first | done | exact congrArg zi (by omega))
        · exact ⟨by omega, by decide⟩
        refine wx_aload_n (i := 0) dX0_doStroke_62 rfl rfl ?_
        refine wx_iload_n (i := 2) dX0_doStroke_63 rfl rfl ?_
        refine wx_iload dX0_doStroke_64 rfl ?_
        refine wx_iadd dX0_doStroke_66 ?_
        refine wx_V1 dX0_doStroke_67 zPV_X0_isThere zLk_X0_67 rfl (Nat.le_of_ble_eq_true rfl) (Nat.le_of_ble_eq_true rfl) (Or.inr rfl) ?_
        refine s_X0_isThere _ ?_
        refine wx_r1 ?_
        refine wx_eqb (tgt := 87) dX0_doStroke_70 (by decide) (fun h70 => ?_) (fun h70 => ?_)
        · rw [zTh_i hn.2 hz he _ (show zU (zSt mm (27 + 1 + k) 18 n z m (mm (20 + 1 + t)) i) (27 + 1 + k) i _ 17 7 = nI n by rw [zU_ne (by omega)]; exact hzn2)] at h70
          refine wx_inc (c := 1) dX0_doStroke_87 rfl (by decide) (Nat.le_of_ble_eq_true rfl) rfl ?_
          refine wx_goto (tgt := 14) dX0_doStroke_90 (by decide) ?_
          refine wx_weak 5 ?_
          rw [zd_succ]
          first
            | exact absurd hth h70
            | exact absurd h70 h28
            | (rw [show zU (zSt mm (27 + 1 + k) 18 n z m (mm (20 + 1 + t)) i) (27 + 1 + k) i (m * mm (20 + 1 + t) i) 18 (z + i - 2) = zSt mm (27 + 1 + k) 18 n z m (mm (20 + 1 + t)) i 18 (z + i - 2) from congrFun (zU_ne (by omega)) _, zSt_T (by omega) hth]
               exact ih (i + 1) (by omega))
            | (rw [zSt_F (by omega) h28]
               exact ih (i + 1) (by omega))
            | exact (0 : Nat)
        · rw [zTh_i hn.2 hz he _ (show zU (zSt mm (27 + 1 + k) 18 n z m (mm (20 + 1 + t)) i) (27 + 1 + k) i _ 17 7 = nI n by rw [zU_ne (by omega)]; exact hzn2)] at h70
          have hz70 : 2 ≤ z + i ∧ z + i < n + 2 := h70
          refine wx_aload_n (i := 0) dX0_doStroke_73 rfl rfl ?_
          refine wx_getRG (k := 17) (t := 18) dX0_doStroke_74 zF_X0_9 zKo_17 rfl (Nat.le_of_ble_eq_true rfl) zRf_17_0 ?_
          refine wx_iload_n (i := 2) dX0_doStroke_77 rfl rfl ?_
          refine wx_iload dX0_doStroke_78 rfl ?_
          refine wx_iadd dX0_doStroke_80 ?_
          refine wx_dup2 dX0_doStroke_81 rfl rfl ?_
          refine wx_ialdG (k := 18) (j := z + i - 2) dX0_doStroke_82 zK_18 (Nat.le_of_ble_eq_true rfl) ?_ ?_ ?_
          · (simp only [zi_nI, zi_add] <;> first | done | exact congrArg zi (by omega))
          · exact ⟨by omega, by decide⟩
          refine wx_iload dX0_doStroke_83 rfl ?_
          refine wx_isub dX0_doStroke_85 ?_
          refine wx_iastG (k := 18) (j := z + i - 2) dX0_doStroke_86 zK_18 (Nat.le_of_ble_eq_true rfl) ?_ ?_ ?_
          · (simp only [zi_nI, zi_add] <;> first | done | exact congrArg zi (by omega))
          · exact ⟨by omega, by decide⟩
          refine wx_inc (c := 1) dX0_doStroke_87 rfl (by decide) (Nat.le_of_ble_eq_true rfl) rfl ?_
          refine wx_goto (tgt := 14) dX0_doStroke_90 (by decide) ?_
          refine wx_weak 5 ?_
          rw [zd_succ]
          first
            | exact absurd hth h70
            | exact absurd h70 h28
            | (rw [show zU (zSt mm (27 + 1 + k) 18 n z m (mm (20 + 1 + t)) i) (27 + 1 + k) i (m * mm (20 + 1 + t) i) 18 (z + i - 2) = zSt mm (27 + 1 + k) 18 n z m (mm (20 + 1 + t)) i 18 (z + i - 2) from congrFun (zU_ne (by omega)) _, zSt_T (by omega) hth]
               exact ih (i + 1) (by omega))
            | (rw [zSt_F (by omega) h28]
               exact ih (i + 1) (by omega))
            | exact (0 : Nat)
      · rw [zTh_i hn.2 hz he _ hzn2] at h28
        have hth : zTh n z i := h28
        refine wx_iload_n (i := 3) dX0_doStroke_31 rfl rfl ?_
        refine wx_aload_n (i := 0) dX0_doStroke_32 rfl rfl ?_
        refine wx_iload_n (i := 1) dX0_doStroke_33 rfl rfl ?_
        refine wx_iload dX0_doStroke_34 rfl ?_
        refine wx_V2 dX0_doStroke_36 zPV_X0_pullOf zLk_X0_71 rfl (Nat.le_of_ble_eq_true rfl) (Nat.le_of_ble_eq_true rfl) (Or.inr rfl) ?_
        refine s_X0_pullOf ht (by omega) ?_
        rw [zPu_in _ he, ep]
        refine wx_r1 ?_
        refine wx_imul dX0_doStroke_39 ?_
        refine wx_goto (tgt := 44) dX0_doStroke_40 (by decide) ?_
        refine wx_istore dX0_doStroke_44 (Nat.le_of_ble_eq_true rfl) rfl ?_
        refine wx_aload_n (i := 0) dX0_doStroke_46 rfl rfl ?_
        refine wx_getRG (k := 17) (t := 27) dX0_doStroke_47 zF_X0_32 zKo_17 rfl (Nat.le_of_ble_eq_true rfl) zRf_17_6 ?_
        refine wx_aload_n (i := 0) dX0_doStroke_50 rfl rfl ?_
        refine wx_getIG (k := 17) dX0_doStroke_51 zF_X0_39 zKo_17 rfl (Nat.le_of_ble_eq_true rfl) ?_
        refine wx_aaldG (k := 27) (j := k) dX0_doStroke_54 zK_27 (Nat.le_of_ble_eq_true rfl) ?_ ?_ ?_
        · exact hks2
        · exact ⟨hk, by decide⟩
        refine wx_iload dX0_doStroke_55 rfl ?_
        refine wx_iconst (v := 2) dX0_doStroke_57 (by decide) ?_
        refine wx_iadd dX0_doStroke_58 ?_
        refine wx_iload dX0_doStroke_59 rfl ?_
        refine wx_iastG (j := i) dX0_doStroke_61 (zKin_27 _ (by omega)) (zKlt_27 _ (by omega)) ?_ ?_ ?_
        · (simp only [zl_2, zi_nI, zi_add, zi_sub] <;> first | done | exact congrArg zi (by omega))
        · exact ⟨by omega, by decide⟩
        refine wx_aload_n (i := 0) dX0_doStroke_62 rfl rfl ?_
        refine wx_iload_n (i := 2) dX0_doStroke_63 rfl rfl ?_
        refine wx_iload dX0_doStroke_64 rfl ?_
        refine wx_iadd dX0_doStroke_66 ?_
        refine wx_V1 dX0_doStroke_67 zPV_X0_isThere zLk_X0_67 rfl (Nat.le_of_ble_eq_true rfl) (Nat.le_of_ble_eq_true rfl) (Or.inr rfl) ?_
        refine s_X0_isThere _ ?_
        refine wx_r1 ?_
        refine wx_eqb (tgt := 87) dX0_doStroke_70 (by decide) (fun h70 => ?_) (fun h70 => ?_)
        · rw [zTh_i hn.2 hz he _ (show zU (zSt mm (27 + 1 + k) 18 n z m (mm (20 + 1 + t)) i) (27 + 1 + k) i _ 17 7 = nI n by rw [zU_ne (by omega)]; exact hzn2)] at h70
          refine wx_inc (c := 1) dX0_doStroke_87 rfl (by decide) (Nat.le_of_ble_eq_true rfl) rfl ?_
          refine wx_goto (tgt := 14) dX0_doStroke_90 (by decide) ?_
          refine wx_weak 5 ?_
          rw [zd_succ]
          first
            | exact absurd hth h70
            | exact absurd h70 h28
            | (rw [show zU (zSt mm (27 + 1 + k) 18 n z m (mm (20 + 1 + t)) i) (27 + 1 + k) i (m * mm (20 + 1 + t) i) 18 (z + i - 2) = zSt mm (27 + 1 + k) 18 n z m (mm (20 + 1 + t)) i 18 (z + i - 2) from congrFun (zU_ne (by omega)) _, zSt_T (by omega) hth]
               exact ih (i + 1) (by omega))
            | (rw [zSt_F (by omega) h28]
               exact ih (i + 1) (by omega))
            | exact (0 : Nat)
        · rw [zTh_i hn.2 hz he _ (show zU (zSt mm (27 + 1 + k) 18 n z m (mm (20 + 1 + t)) i) (27 + 1 + k) i _ 17 7 = nI n by rw [zU_ne (by omega)]; exact hzn2)] at h70
          have hz70 : 2 ≤ z + i ∧ z + i < n + 2 := h70
          refine wx_aload_n (i := 0) dX0_doStroke_73 rfl rfl ?_
          refine wx_getRG (k := 17) (t := 18) dX0_doStroke_74 zF_X0_9 zKo_17 rfl (Nat.le_of_ble_eq_true rfl) zRf_17_0 ?_
          refine wx_iload_n (i := 2) dX0_doStroke_77 rfl rfl ?_
          refine wx_iload dX0_doStroke_78 rfl ?_
          refine wx_iadd dX0_doStroke_80 ?_
          refine wx_dup2 dX0_doStroke_81 rfl rfl ?_
          refine wx_ialdG (k := 18) (j := z + i - 2) dX0_doStroke_82 zK_18 (Nat.le_of_ble_eq_true rfl) ?_ ?_ ?_
          · (simp only [zi_nI, zi_add] <;> first | done | exact congrArg zi (by omega))
          · exact ⟨by omega, by decide⟩
          refine wx_iload dX0_doStroke_83 rfl ?_
          refine wx_isub dX0_doStroke_85 ?_
          refine wx_iastG (k := 18) (j := z + i - 2) dX0_doStroke_86 zK_18 (Nat.le_of_ble_eq_true rfl) ?_ ?_ ?_
          · (simp only [zi_nI, zi_add] <;> first | done | exact congrArg zi (by omega))
          · exact ⟨by omega, by decide⟩
          refine wx_inc (c := 1) dX0_doStroke_87 rfl (by decide) (Nat.le_of_ble_eq_true rfl) rfl ?_
          refine wx_goto (tgt := 14) dX0_doStroke_90 (by decide) ?_
          refine wx_weak 5 ?_
          rw [zd_succ]
          first
            | exact absurd hth h70
            | exact absurd h70 h28
            | (rw [show zU (zSt mm (27 + 1 + k) 18 n z m (mm (20 + 1 + t)) i) (27 + 1 + k) i (m * mm (20 + 1 + t) i) 18 (z + i - 2) = zSt mm (27 + 1 + k) 18 n z m (mm (20 + 1 + t)) i 18 (z + i - 2) from congrFun (zU_ne (by omega)) _, zSt_T (by omega) hth]
               exact ih (i + 1) (by omega))
            | (rw [zSt_F (by omega) h28]
               exact ih (i + 1) (by omega))
            | exact (0 : Nat)
