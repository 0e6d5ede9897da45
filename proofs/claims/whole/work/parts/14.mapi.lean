/-! the plain calls of the reference -/
theorem s_X9_aim_bad {d : Nat} {K : List Value → zS → Prop} {mm : zM} {a b c : Int32} (hb : ¬ ((100 ≤ a ∧ a ≤ 5000) ∧ ((-30) ≤ b ∧ b ≤ 30) ∧ (1 ≤ c ∧ c ≤ 10))) (hK : K [.int (-1)] (zG mm)) : wm (d + 1) mX9_aim [.ref 128, .int a, .int b, .int c] (zG mm) K := by
  refine wm_of2 (L0 := [some (.ref 128), some (.int a), some (.int b), some (.int c)]) zCm_X9_aim (Or.inl rfl) (Nat.le_of_ble_eq_true rfl) rfl ?_
  refine wx_iload_n (i := 1) dX9_aim_0 rfl rfl ?_
  refine wx_bipush (v := 100) dX9_aim_1 (by decide) ?_
  refine wx_sipush (v := 5000) dX9_aim_3 (by decide) ?_
  refine wx_S3 dX9_aim_6 zPS_X9_in zLk_X9_116 (Nat.le_of_ble_eq_true rfl) (Or.inr rfl) ?_
  refine s_X9_in _ _ _ ?_
  refine wx_r1 ?_
  refine wx_eqb (tgt := 33) dX9_aim_9 (by decide) (fun h9 => ?_) (fun h9 => ?_)
  · skip
    refine wx_iconst (v := (-1)) dX9_aim_33 (by decide) ?_
    refine wx_iret dX9_aim_34 rfl rfl (Or.inl rfl) ?_
    exact hK
  · skip
    refine wx_iload_n (i := 2) dX9_aim_12 rfl rfl ?_
    refine wx_bipush (v := (-30)) dX9_aim_13 (by decide) ?_
    refine wx_bipush (v := 30) dX9_aim_15 (by decide) ?_
    refine wx_S3 dX9_aim_17 zPS_X9_in zLk_X9_116 (Nat.le_of_ble_eq_true rfl) (Or.inr rfl) ?_
    refine s_X9_in _ _ _ ?_
    refine wx_r1 ?_
    refine wx_eqb (tgt := 33) dX9_aim_20 (by decide) (fun h20 => ?_) (fun h20 => ?_)
    · skip
      refine wx_iconst (v := (-1)) dX9_aim_33 (by decide) ?_
      refine wx_iret dX9_aim_34 rfl rfl (Or.inl rfl) ?_
      exact hK
    · skip
      refine wx_iload_n (i := 3) dX9_aim_23 rfl rfl ?_
      refine wx_iconst (v := 1) dX9_aim_24 (by decide) ?_
      refine wx_bipush (v := 10) dX9_aim_25 (by decide) ?_
      refine wx_S3 dX9_aim_27 zPS_X9_in zLk_X9_116 (Nat.le_of_ble_eq_true rfl) (Or.inr rfl) ?_
      refine s_X9_in _ _ _ ?_
      refine wx_r1 ?_
      refine wx_neb (tgt := 35) dX9_aim_30 (by decide) (fun h30 => ?_) (fun h30 => ?_)
      · skip
        exact (hb ⟨by assumption, by assumption, by assumption⟩).elim
      · skip
        refine wx_iconst (v := (-1)) dX9_aim_33 (by decide) ?_
        refine wx_iret dX9_aim_34 rfl rfl (Or.inl rfl) ?_
        exact hK
theorem s_X9_aim_ok {d : Nat} {K : List Value → zS → Prop} {mm : zM} {a b c : Int32} (k1 : 100 ≤ a ∧ a ≤ 5000) (k2 : -30 ≤ b ∧ b ≤ 30) (k3 : 1 ≤ c ∧ c ≤ 10) (hK : K [.int 0] (zG (zU (zU (zU mm 128 3 a) 128 4 b) 128 5 c))) : wm (d + 1) mX9_aim [.ref 128, .int a, .int b, .int c] (zG mm) K := by
  refine wm_of2 (L0 := [some (.ref 128), some (.int a), some (.int b), some (.int c)]) zCm_X9_aim (Or.inl rfl) (Nat.le_of_ble_eq_true rfl) rfl ?_
  refine wx_iload_n (i := 1) dX9_aim_0 rfl rfl ?_
  refine wx_bipush (v := 100) dX9_aim_1 (by decide) ?_
  refine wx_sipush (v := 5000) dX9_aim_3 (by decide) ?_
  refine wx_S3 dX9_aim_6 zPS_X9_in zLk_X9_116 (Nat.le_of_ble_eq_true rfl) (Or.inr rfl) ?_
  refine s_X9_in _ _ _ ?_
  refine wx_r1 ?_
  refine wx_eqb (tgt := 33) dX9_aim_9 (by decide) (fun h9 => ?_) (fun h9 => ?_)
  · contradiction --end
  · skip
    refine wx_iload_n (i := 2) dX9_aim_12 rfl rfl ?_
    refine wx_bipush (v := (-30)) dX9_aim_13 (by decide) ?_
    refine wx_bipush (v := 30) dX9_aim_15 (by decide) ?_
    refine wx_S3 dX9_aim_17 zPS_X9_in zLk_X9_116 (Nat.le_of_ble_eq_true rfl) (Or.inr rfl) ?_
    refine s_X9_in _ _ _ ?_
    refine wx_r1 ?_
    refine wx_eqb (tgt := 33) dX9_aim_20 (by decide) (fun h20 => ?_) (fun h20 => ?_)
    · contradiction --end
    · skip
      refine wx_iload_n (i := 3) dX9_aim_23 rfl rfl ?_
      refine wx_iconst (v := 1) dX9_aim_24 (by decide) ?_
      refine wx_bipush (v := 10) dX9_aim_25 (by decide) ?_
      refine wx_S3 dX9_aim_27 zPS_X9_in zLk_X9_116 (Nat.le_of_ble_eq_true rfl) (Or.inr rfl) ?_
      refine s_X9_in _ _ _ ?_
      refine wx_r1 ?_
      refine wx_neb (tgt := 35) dX9_aim_30 (by decide) (fun h30 => ?_) (fun h30 => ?_)
      · skip
        refine wx_aload_n (i := 0) dX9_aim_35 rfl rfl ?_
        refine wx_iload_n (i := 1) dX9_aim_36 rfl rfl ?_
        refine wx_putIG (k := 128) dX9_aim_37 zF_X9_20 zKo_128 rfl (Nat.le_of_ble_eq_true rfl) rfl rfl ?_
        refine wx_aload_n (i := 0) dX9_aim_40 rfl rfl ?_
        refine wx_iload_n (i := 2) dX9_aim_41 rfl rfl ?_
        refine wx_putIG (k := 128) dX9_aim_42 zF_X9_23 zKo_128 rfl (Nat.le_of_ble_eq_true rfl) rfl rfl ?_
        refine wx_aload_n (i := 0) dX9_aim_45 rfl rfl ?_
        refine wx_iload_n (i := 3) dX9_aim_46 rfl rfl ?_
        refine wx_putIG (k := 128) dX9_aim_47 zF_X9_26 zKo_128 rfl (Nat.le_of_ble_eq_true rfl) rfl rfl ?_
        refine wx_iconst (v := 0) dX9_aim_50 (by decide) ?_
        refine wx_iret dX9_aim_51 rfl rfl (Or.inl rfl) ?_
        exact hK
      · contradiction --end
theorem s_X9_at_bad {d : Nat} {K : List Value → zS → Prop} {mm : zM} {a : Int32} {n : Nat} (hzn : mm 128 0 = nI n)  (hb : ¬ ((0 ≤ a ∧ a ≤ nI n - 1))) (hK : K [.int (-1000000)] (zG mm)) : wm (d + 2) mX9_at [.ref 128, .int a] (zG mm) K := by
  refine wm_of2 (L0 := [some (.ref 128), some (.int a)]) zCm_X9_at (Or.inl rfl) (Nat.le_of_ble_eq_true rfl) rfl ?_
  refine wx_aload_n (i := 0) dX9_at_0 rfl rfl ?_
  refine wx_iload_n (i := 1) dX9_at_1 rfl rfl ?_
  refine wx_V1 dX9_at_2 zPV_X9_isZone zLk_X9_130 rfl (Nat.le_of_ble_eq_true rfl) (Nat.le_of_ble_eq_true rfl) (Or.inr rfl) ?_
  refine s_X9_isZone _ ?_
  rw [hzn]
  refine wx_r1 ?_
  refine wx_eqb (tgt := 17) dX9_at_5 (by decide) (fun h5 => ?_) (fun h5 => ?_)
  · skip
    refine wx_ldc dX9_at_17 zKc_X9_136 ?_
    refine wx_iret dX9_at_19 rfl rfl (Or.inl rfl) ?_
    exact hK
  · skip
    exact (hb (by assumption)).elim
theorem s_X9_at_ok {d : Nat} {K : List Value → zS → Prop} {mm : zM} {n : Nat} (hzn : mm 128 0 = nI n) {z : Nat} (hz : z < 16) (k1 : 0 ≤ nI z ∧ nI z ≤ nI n - 1) (hK : K [.int (mm 129 z)] (zG mm)) : wm (d + 2) mX9_at [.ref 128, .int (nI z)] (zG mm) K := by
  refine wm_of2 (L0 := [some (.ref 128), some (.int (nI z))]) zCm_X9_at (Or.inl rfl) (Nat.le_of_ble_eq_true rfl) rfl ?_
  refine wx_aload_n (i := 0) dX9_at_0 rfl rfl ?_
  refine wx_iload_n (i := 1) dX9_at_1 rfl rfl ?_
  refine wx_V1 dX9_at_2 zPV_X9_isZone zLk_X9_130 rfl (Nat.le_of_ble_eq_true rfl) (Nat.le_of_ble_eq_true rfl) (Or.inr rfl) ?_
  refine s_X9_isZone _ ?_
  rw [hzn]
  refine wx_r1 ?_
  refine wx_eqb (tgt := 17) dX9_at_5 (by decide) (fun h5 => ?_) (fun h5 => ?_)
  · contradiction --end
  · skip
    refine wx_aload_n (i := 0) dX9_at_8 rfl rfl ?_
    refine wx_getRG (k := 128) (t := 129) dX9_at_9 zF_X9_13 zKo_128 rfl (Nat.le_of_ble_eq_true rfl) zRf_128_1 ?_
    refine wx_iload_n (i := 1) dX9_at_12 rfl rfl ?_
    refine wx_ialdG (k := 129) dX9_at_13 zK_129 (Nat.le_of_ble_eq_true rfl) rfl ?_ ?_
    · exact ⟨hz, by decide⟩
    refine wx_goto (tgt := 19) dX9_at_14 (by decide) ?_
    refine wx_iret dX9_at_19 rfl rfl (Or.inl rfl) ?_
    exact hK
/-- g, but its first i places as in f -/
def zCp (f g : Nat → Int32) (i : Nat) : Nat → Int32 := fun j => if j < i then f j else g j
theorem zCp_0 (f g : Nat → Int32) : zCp f g 0 = g := by
  funext j
  exact if_neg (Nat.not_lt_zero j)
theorem zCp_succ (mm : zM) (c i : Nat) (f : Nat → Int32) : zU (va_up mm c (zCp f (mm c) i)) c i (f i) = va_up mm c (zCp f (mm c) (i + 1)) := by
  funext a
  by_cases h : a = c
  · subst h
    rw [zU_at]
    simp only [va_up, if_true]
    funext j
    unfold upd zCp
    by_cases q : j = i
    · subst q
      rw [if_pos rfl, if_pos (Nat.lt_succ_self j)]
    · rw [if_neg q]
      by_cases w : j < i
      · rw [if_pos w, if_pos (by omega)]
      · rw [if_neg w, if_neg (by omega)]
  · rw [zU_ne h]
    simp [va_up, h]
theorem zCp_up0 (mm : zM) (c : Nat) (f : Nat → Int32) : va_up mm c (zCp f (mm c) 0) = mm := by
  rw [zCp_0]
  funext a
  by_cases h : a = c
  · subst h; simp [va_up]
  · simp [va_up, h]
theorem s_X9_height_bad {d : Nat} {K : List Value → zS → Prop} {mm : zM} {a b : Int32} {n : Nat} (hzn : mm 128 0 = nI n)  (hb : ¬ ((0 ≤ a ∧ a ≤ nI n - 1) ∧ ((-100000) ≤ b ∧ b ≤ 100000))) (hK : K [.int (-1000000)] (zG mm)) : wm (d + 2) mX9_height [.ref 128, .int a, .int b] (zG mm) K := by
  refine wm_of2 (L0 := [some (.ref 128), some (.int a), some (.int b), none, none]) zCm_X9_height (Or.inl rfl) (Nat.le_of_ble_eq_true rfl) rfl ?_
  refine wx_aload_n (i := 0) dX9_height_0 rfl rfl ?_
  refine wx_iload_n (i := 1) dX9_height_1 rfl rfl ?_
  refine wx_V1 dX9_height_2 zPV_X9_isZone zLk_X9_130 rfl (Nat.le_of_ble_eq_true rfl) (Nat.le_of_ble_eq_true rfl) (Or.inr rfl) ?_
  refine s_X9_isZone _ ?_
  rw [hzn]
  refine wx_r1 ?_
  refine wx_eqb (tgt := 19) dX9_height_5 (by decide) (fun h5 => ?_) (fun h5 => ?_)
  · skip
    refine wx_ldc dX9_height_19 zKc_X9_136 ?_
    refine wx_iret dX9_height_21 rfl rfl (Or.inl rfl) ?_
    exact hK
  · skip
    refine wx_iload_n (i := 2) dX9_height_8 rfl rfl ?_
    refine wx_ldc dX9_height_9 zKc_X9_134 ?_
    refine wx_ldc dX9_height_11 zKc_X9_135 ?_
    refine wx_S3 dX9_height_13 zPS_X9_in zLk_X9_116 (Nat.le_of_ble_eq_true rfl) (Or.inr rfl) ?_
    refine s_X9_in _ _ _ ?_
    refine wx_r1 ?_
    refine wx_neb (tgt := 22) dX9_height_16 (by decide) (fun h16 => ?_) (fun h16 => ?_)
    · skip
      exact (hb ⟨by assumption, by assumption⟩).elim
    · skip
      refine wx_ldc dX9_height_19 zKc_X9_136 ?_
      refine wx_iret dX9_height_21 rfl rfl (Or.inl rfl) ?_
      exact hK
theorem lp_mheight {d : Nat} {K : List Value → zS → Prop} {mm : zM} {x y w : Int32} (hK : K [.int w] (zG (va_up mm 130 (zCp (mm 129) (mm 130) 16)))) : ∀ c i : Nat, i + c = 16 → wx (d) mX9_height 44 [some (.ref 128), some (.int x), some (.int y), some (.int w), some (.int (nI i))] [] (zG (va_up mm 130 (zCp (mm 129) (mm 130) i))) K := by
  intro c
  induction c with
  | zero =>
    intro i hi 
    refine wx_iload dX9_height_44 rfl ?_
    refine wx_bipush (v := 16) dX9_height_46 (by decide) ?_
    refine wx_icmp_ge (tgt := 71) dX9_height_48 (by decide) (fun h48 => ?_) (fun h48 => ?_)
    · skip
      have hin : i = 16 := by omega
      subst hin
      refine wx_iload_n (i := 3) dX9_height_71 rfl rfl ?_
      refine wx_iret dX9_height_72 rfl rfl (Or.inl rfl) ?_
      exact hK
    · exact absurd (show nI 16 ≤ nI i from nI_le (by omega) (by omega)) h48 --end
  | succ c ih =>
    intro i hi 
    refine wx_iload dX9_height_44 rfl ?_
    refine wx_bipush (v := 16) dX9_height_46 (by decide) ?_
    refine wx_icmp_ge (tgt := 71) dX9_height_48 (by decide) (fun h48 => ?_) (fun h48 => ?_)
    · exact absurd (show nI 16 ≤ nI i from h48) (nI_ge (by omega) (by omega)) --end
    · skip
      refine wx_aload_n (i := 0) dX9_height_51 rfl rfl ?_
      refine wx_getRG (k := 128) (t := 130) dX9_height_52 zF_X9_17 zKo_128 rfl (Nat.le_of_ble_eq_true rfl) zRf_128_2 ?_
      refine wx_iload dX9_height_55 rfl ?_
      refine wx_aload_n (i := 0) dX9_height_57 rfl rfl ?_
      refine wx_getRG (k := 128) (t := 129) dX9_height_58 zF_X9_13 zKo_128 rfl (Nat.le_of_ble_eq_true rfl) zRf_128_1 ?_
      refine wx_iload dX9_height_61 rfl ?_
      refine wx_ialdG (k := 129) dX9_height_63 zK_129 (Nat.le_of_ble_eq_true rfl) rfl ?_ ?_
      · exact ⟨by omega, by decide⟩
      refine wx_iastG (k := 130) dX9_height_64 zK_130 (Nat.le_of_ble_eq_true rfl) rfl ?_ ?_
      · exact ⟨by omega, by decide⟩
      refine wx_inc (c := 1) dX9_height_65 rfl (by decide) (Nat.le_of_ble_eq_true rfl) rfl ?_
      refine wx_goto (tgt := 44) dX9_height_68 (by decide) ?_
      rw [nI_1, show va_up mm 130 (zCp (mm 129) (mm 130) i) 129 i = mm 129 i from rfl, zCp_succ]
      exact ih (i + 1) (by omega)
theorem s_X9_height_ok {d : Nat} {K : List Value → zS → Prop} {mm : zM} {n : Nat} (hzn : mm 128 0 = nI n) {z : Nat} {b : Int32} (hz : z < 16) (k1 : 0 ≤ nI z ∧ nI z ≤ nI n - 1) (k2 : -100000 ≤ b ∧ b ≤ 100000) (hK : K [.int (mm 129 z)] (zG (va_up (zU (zU mm 129 z b) 128 14 0) 130 (zCp (zU mm 129 z b 129) (mm 130) 16)))) : wm (d + 2) mX9_height [.ref 128, .int (nI z), .int b] (zG mm) K := by
  refine wm_of2 (L0 := [some (.ref 128), some (.int (nI z)), some (.int b), none, none]) zCm_X9_height (Or.inl rfl) (Nat.le_of_ble_eq_true rfl) rfl ?_
  refine wx_aload_n (i := 0) dX9_height_0 rfl rfl ?_
  refine wx_iload_n (i := 1) dX9_height_1 rfl rfl ?_
  refine wx_V1 dX9_height_2 zPV_X9_isZone zLk_X9_130 rfl (Nat.le_of_ble_eq_true rfl) (Nat.le_of_ble_eq_true rfl) (Or.inr rfl) ?_
  refine s_X9_isZone _ ?_
  rw [hzn]
  refine wx_r1 ?_
  refine wx_eqb (tgt := 19) dX9_height_5 (by decide) (fun h5 => ?_) (fun h5 => ?_)
  · contradiction --end
  · skip
    refine wx_iload_n (i := 2) dX9_height_8 rfl rfl ?_
    refine wx_ldc dX9_height_9 zKc_X9_134 ?_
    refine wx_ldc dX9_height_11 zKc_X9_135 ?_
    refine wx_S3 dX9_height_13 zPS_X9_in zLk_X9_116 (Nat.le_of_ble_eq_true rfl) (Or.inr rfl) ?_
    refine s_X9_in _ _ _ ?_
    refine wx_r1 ?_
    refine wx_neb (tgt := 22) dX9_height_16 (by decide) (fun h16 => ?_) (fun h16 => ?_)
    · skip
      refine wx_aload_n (i := 0) dX9_height_22 rfl rfl ?_
      refine wx_getRG (k := 128) (t := 129) dX9_height_23 zF_X9_13 zKo_128 rfl (Nat.le_of_ble_eq_true rfl) zRf_128_1 ?_
      refine wx_iload_n (i := 1) dX9_height_26 rfl rfl ?_
      refine wx_ialdG (k := 129) dX9_height_27 zK_129 (Nat.le_of_ble_eq_true rfl) rfl ?_ ?_
      · exact ⟨hz, by decide⟩
      refine wx_istore_n (i := 3) dX9_height_28 rfl (Nat.le_of_ble_eq_true rfl) rfl ?_
      refine wx_aload_n (i := 0) dX9_height_29 rfl rfl ?_
      refine wx_getRG (k := 128) (t := 129) dX9_height_30 zF_X9_13 zKo_128 rfl (Nat.le_of_ble_eq_true rfl) zRf_128_1 ?_
      refine wx_iload_n (i := 1) dX9_height_33 rfl rfl ?_
      refine wx_iload_n (i := 2) dX9_height_34 rfl rfl ?_
      refine wx_iastG (k := 129) dX9_height_35 zK_129 (Nat.le_of_ble_eq_true rfl) rfl ?_ ?_
      · exact ⟨hz, by decide⟩
      refine wx_aload_n (i := 0) dX9_height_36 rfl rfl ?_
      refine wx_iconst (v := 0) dX9_height_37 (by decide) ?_
      refine wx_putIG (k := 128) dX9_height_38 zF_X9_113 zKo_128 rfl (Nat.le_of_ble_eq_true rfl) rfl rfl ?_
      refine wx_iconst (v := 0) dX9_height_41 (by decide) ?_
      refine wx_istore dX9_height_42 (Nat.le_of_ble_eq_true rfl) rfl ?_
      have h := lp_mheight (d := d + 2) (mm := zU (zU mm 129 z b) 128 14 0) (x := nI z) (y := b) (w := mm 129 z) hK 16 0 (by omega)
      rw [zCp_up0] at h
      exact h
    · contradiction --end
theorem s_X9_pull_bad {d : Nat} {K : List Value → zS → Prop} {mm : zM} {a b c : Int32} (hb : ¬ ((0 ≤ a ∧ a ≤ 2) ∧ ((-2) ≤ b ∧ b ≤ 2) ∧ (0 ≤ c ∧ c ≤ 50))) (hK : K [.int (-1)] (zG mm)) : wm (d + 1) mX9_pull [.ref 128, .int a, .int b, .int c] (zG mm) K := by
  refine wm_of2 (L0 := [some (.ref 128), some (.int a), some (.int b), some (.int c), none]) zCm_X9_pull (Or.inl rfl) (Nat.le_of_ble_eq_true rfl) rfl ?_
  refine wx_iload_n (i := 1) dX9_pull_0 rfl rfl ?_
  refine wx_iconst (v := 0) dX9_pull_1 (by decide) ?_
  refine wx_iconst (v := 2) dX9_pull_2 (by decide) ?_
  refine wx_S3 dX9_pull_3 zPS_X9_in zLk_X9_116 (Nat.le_of_ble_eq_true rfl) (Or.inr rfl) ?_
  refine s_X9_in _ _ _ ?_
  refine wx_r1 ?_
  refine wx_eqb (tgt := 29) dX9_pull_6 (by decide) (fun h6 => ?_) (fun h6 => ?_)
  · skip
    refine wx_iconst (v := (-1)) dX9_pull_29 (by decide) ?_
    refine wx_iret dX9_pull_30 rfl rfl (Or.inl rfl) ?_
    exact hK
  · skip
    refine wx_iload_n (i := 2) dX9_pull_9 rfl rfl ?_
    refine wx_bipush (v := (-2)) dX9_pull_10 (by decide) ?_
    refine wx_iconst (v := 2) dX9_pull_12 (by decide) ?_
    refine wx_S3 dX9_pull_13 zPS_X9_in zLk_X9_116 (Nat.le_of_ble_eq_true rfl) (Or.inr rfl) ?_
    refine s_X9_in _ _ _ ?_
    refine wx_r1 ?_
    refine wx_eqb (tgt := 29) dX9_pull_16 (by decide) (fun h16 => ?_) (fun h16 => ?_)
    · skip
      refine wx_iconst (v := (-1)) dX9_pull_29 (by decide) ?_
      refine wx_iret dX9_pull_30 rfl rfl (Or.inl rfl) ?_
      exact hK
    · skip
      refine wx_iload_n (i := 3) dX9_pull_19 rfl rfl ?_
      refine wx_iconst (v := 0) dX9_pull_20 (by decide) ?_
      refine wx_bipush (v := 50) dX9_pull_21 (by decide) ?_
      refine wx_S3 dX9_pull_23 zPS_X9_in zLk_X9_116 (Nat.le_of_ble_eq_true rfl) (Or.inr rfl) ?_
      refine s_X9_in _ _ _ ?_
      refine wx_r1 ?_
      refine wx_neb (tgt := 31) dX9_pull_26 (by decide) (fun h26 => ?_) (fun h26 => ?_)
      · skip
        exact (hb ⟨by assumption, by assumption, by assumption⟩).elim
      · skip
        refine wx_iconst (v := (-1)) dX9_pull_29 (by decide) ?_
        refine wx_iret dX9_pull_30 rfl rfl (Or.inl rfl) ?_
        exact hK
theorem s_X9_pull_ok {d : Nat} {K : List Value → zS → Prop} {mm : zM} {t e : Nat} {c : Int32} (ht : t < 3) (he : e < 5) (k1 : 0 ≤ nI t ∧ nI t ≤ 2) (k2 : -2 ≤ zi ((e : Int) - 2) ∧ zi ((e : Int) - 2) ≤ 2) (k3 : 0 ≤ c ∧ c ≤ 50) (hK : K [.int (mm 135 (5 * t + e))] (zG (zU mm 135 (5 * t + e) c))) : wm (d + 1) mX9_pull [.ref 128, .int (nI t), .int (zi ((e : Int) - 2)), .int c] (zG mm) K := by
  refine wm_of2 (L0 := [some (.ref 128), some (.int (nI t)), some (.int (zi ((e : Int) - 2))), some (.int c), none]) zCm_X9_pull (Or.inl rfl) (Nat.le_of_ble_eq_true rfl) rfl ?_
  refine wx_iload_n (i := 1) dX9_pull_0 rfl rfl ?_
  refine wx_iconst (v := 0) dX9_pull_1 (by decide) ?_
  refine wx_iconst (v := 2) dX9_pull_2 (by decide) ?_
  refine wx_S3 dX9_pull_3 zPS_X9_in zLk_X9_116 (Nat.le_of_ble_eq_true rfl) (Or.inr rfl) ?_
  refine s_X9_in _ _ _ ?_
  refine wx_r1 ?_
  refine wx_eqb (tgt := 29) dX9_pull_6 (by decide) (fun h6 => ?_) (fun h6 => ?_)
  · contradiction --end
  · skip
    refine wx_iload_n (i := 2) dX9_pull_9 rfl rfl ?_
    refine wx_bipush (v := (-2)) dX9_pull_10 (by decide) ?_
    refine wx_iconst (v := 2) dX9_pull_12 (by decide) ?_
    refine wx_S3 dX9_pull_13 zPS_X9_in zLk_X9_116 (Nat.le_of_ble_eq_true rfl) (Or.inr rfl) ?_
    refine s_X9_in _ _ _ ?_
    refine wx_r1 ?_
    refine wx_eqb (tgt := 29) dX9_pull_16 (by decide) (fun h16 => ?_) (fun h16 => ?_)
    · contradiction --end
    · skip
      refine wx_iload_n (i := 3) dX9_pull_19 rfl rfl ?_
      refine wx_iconst (v := 0) dX9_pull_20 (by decide) ?_
      refine wx_bipush (v := 50) dX9_pull_21 (by decide) ?_
      refine wx_S3 dX9_pull_23 zPS_X9_in zLk_X9_116 (Nat.le_of_ble_eq_true rfl) (Or.inr rfl) ?_
      refine s_X9_in _ _ _ ?_
      refine wx_r1 ?_
      refine wx_neb (tgt := 31) dX9_pull_26 (by decide) (fun h26 => ?_) (fun h26 => ?_)
      · skip
        refine wx_aload_n (i := 0) dX9_pull_31 rfl rfl ?_
        refine wx_getRG (k := 128) (t := 135) dX9_pull_32 zF_X9_44 zKo_128 rfl (Nat.le_of_ble_eq_true rfl) zRf_128_12 ?_
        refine wx_iconst (v := 5) dX9_pull_35 (by decide) ?_
        refine wx_iload_n (i := 1) dX9_pull_36 rfl rfl ?_
        refine wx_imul dX9_pull_37 ?_
        refine wx_iload_n (i := 2) dX9_pull_38 rfl rfl ?_
        refine wx_iadd dX9_pull_39 ?_
        refine wx_iconst (v := 2) dX9_pull_40 (by decide) ?_
        refine wx_iadd dX9_pull_41 ?_
        refine wx_ialdG (k := 135) (j := 5 * t + e) dX9_pull_42 zK_135 (Nat.le_of_ble_eq_true rfl) ?_ ?_ ?_
        · (simp only [zl_5, zl_2, zi_nI, zi_mul, zi_add, zi_sub] <;> first | done | exact congrArg zi (by omega))
        · exact ⟨by omega, by decide⟩
        refine wx_istore dX9_pull_43 (Nat.le_of_ble_eq_true rfl) rfl ?_
        refine wx_aload_n (i := 0) dX9_pull_45 rfl rfl ?_
        refine wx_getRG (k := 128) (t := 135) dX9_pull_46 zF_X9_44 zKo_128 rfl (Nat.le_of_ble_eq_true rfl) zRf_128_12 ?_
        refine wx_iconst (v := 5) dX9_pull_49 (by decide) ?_
        refine wx_iload_n (i := 1) dX9_pull_50 rfl rfl ?_
        refine wx_imul dX9_pull_51 ?_
        refine wx_iload_n (i := 2) dX9_pull_52 rfl rfl ?_
        refine wx_iadd dX9_pull_53 ?_
        refine wx_iconst (v := 2) dX9_pull_54 (by decide) ?_
        refine wx_iadd dX9_pull_55 ?_
        refine wx_iload_n (i := 3) dX9_pull_56 rfl rfl ?_
        refine wx_iastG (k := 135) (j := 5 * t + e) dX9_pull_57 zK_135 (Nat.le_of_ble_eq_true rfl) ?_ ?_ ?_
        · (simp only [zl_5, zl_2, zi_nI, zi_mul, zi_add, zi_sub] <;> first | done | exact congrArg zi (by omega))
        · exact ⟨by omega, by decide⟩
        refine wx_iload dX9_pull_58 rfl ?_
        refine wx_iret dX9_pull_60 rfl rfl (Or.inl rfl) ?_
        exact hK
      · contradiction --end
theorem s_X9_rest_bad {d : Nat} {K : List Value → zS → Prop} {mm : zM} {a : Int32} (hb : ¬ ((0 ≤ a ∧ a ≤ 10000))) (hK : K [.int (-1)] (zG mm)) : wm (d + 1) mX9_rest [.ref 128, .int a] (zG mm) K := by
  refine wm_of2 (L0 := [some (.ref 128), some (.int a), none]) zCm_X9_rest (Or.inl rfl) (Nat.le_of_ble_eq_true rfl) rfl ?_
  refine wx_iload_n (i := 1) dX9_rest_0 rfl rfl ?_
  refine wx_iconst (v := 0) dX9_rest_1 (by decide) ?_
  refine wx_sipush (v := 10000) dX9_rest_2 (by decide) ?_
  refine wx_S3 dX9_rest_5 zPS_X9_in zLk_X9_116 (Nat.le_of_ble_eq_true rfl) (Or.inr rfl) ?_
  refine s_X9_in _ _ _ ?_
  refine wx_r1 ?_
  refine wx_neb (tgt := 13) dX9_rest_8 (by decide) (fun h8 => ?_) (fun h8 => ?_)
  · skip
    exact (hb (by assumption)).elim
  · skip
    refine wx_iconst (v := (-1)) dX9_rest_11 (by decide) ?_
    refine wx_iret dX9_rest_12 rfl rfl (Or.inl rfl) ?_
    exact hK
theorem s_X9_rest_ok {d : Nat} {K : List Value → zS → Prop} {mm : zM} {a : Int32} (k1 : 0 ≤ a ∧ a ≤ 10000) (hK : K [.int (mm 128 13)] (zG (zU mm 128 13 a))) : wm (d + 1) mX9_rest [.ref 128, .int a] (zG mm) K := by
  refine wm_of2 (L0 := [some (.ref 128), some (.int a), none]) zCm_X9_rest (Or.inl rfl) (Nat.le_of_ble_eq_true rfl) rfl ?_
  refine wx_iload_n (i := 1) dX9_rest_0 rfl rfl ?_
  refine wx_iconst (v := 0) dX9_rest_1 (by decide) ?_
  refine wx_sipush (v := 10000) dX9_rest_2 (by decide) ?_
  refine wx_S3 dX9_rest_5 zPS_X9_in zLk_X9_116 (Nat.le_of_ble_eq_true rfl) (Or.inr rfl) ?_
  refine s_X9_in _ _ _ ?_
  refine wx_r1 ?_
  refine wx_neb (tgt := 13) dX9_rest_8 (by decide) (fun h8 => ?_) (fun h8 => ?_)
  · skip
    refine wx_aload_n (i := 0) dX9_rest_13 rfl rfl ?_
    refine wx_getIG (k := 128) dX9_rest_14 zF_X9_47 zKo_128 rfl (Nat.le_of_ble_eq_true rfl) ?_
    refine wx_istore_n (i := 2) dX9_rest_17 rfl (Nat.le_of_ble_eq_true rfl) rfl ?_
    refine wx_aload_n (i := 0) dX9_rest_18 rfl rfl ?_
    refine wx_iload_n (i := 1) dX9_rest_19 rfl rfl ?_
    refine wx_putIG (k := 128) dX9_rest_20 zF_X9_47 zKo_128 rfl (Nat.le_of_ble_eq_true rfl) rfl rfl ?_
    refine wx_iload_n (i := 2) dX9_rest_23 rfl rfl ?_
    refine wx_iret dX9_rest_24 rfl rfl (Or.inl rfl) ?_
    exact hK
  · contradiction --end
theorem s_X9_lie_bad {d : Nat} {K : List Value → zS → Prop} {mm : zM} {a : Int32} (hb : ¬ ((0 ≤ a ∧ a ≤ 50))) (hK : K [.int (-1)] (zG mm)) : wm (d + 1) mX9_lie [.ref 128, .int a] (zG mm) K := by
  refine wm_of2 (L0 := [some (.ref 128), some (.int a), none]) zCm_X9_lie (Or.inl rfl) (Nat.le_of_ble_eq_true rfl) rfl ?_
  refine wx_iload_n (i := 1) dX9_lie_0 rfl rfl ?_
  refine wx_iconst (v := 0) dX9_lie_1 (by decide) ?_
  refine wx_bipush (v := 50) dX9_lie_2 (by decide) ?_
  refine wx_S3 dX9_lie_4 zPS_X9_in zLk_X9_116 (Nat.le_of_ble_eq_true rfl) (Or.inr rfl) ?_
  refine s_X9_in _ _ _ ?_
  refine wx_r1 ?_
  refine wx_neb (tgt := 12) dX9_lie_7 (by decide) (fun h7 => ?_) (fun h7 => ?_)
  · skip
    exact (hb (by assumption)).elim
  · skip
    refine wx_iconst (v := (-1)) dX9_lie_10 (by decide) ?_
    refine wx_iret dX9_lie_11 rfl rfl (Or.inl rfl) ?_
    exact hK
theorem s_X9_lie_ok {d : Nat} {K : List Value → zS → Prop} {mm : zM} {a : Int32} (k1 : 0 ≤ a ∧ a ≤ 50) (hK : K [.int (mm 128 7)] (zG (zU mm 128 7 a))) : wm (d + 1) mX9_lie [.ref 128, .int a] (zG mm) K := by
  refine wm_of2 (L0 := [some (.ref 128), some (.int a), none]) zCm_X9_lie (Or.inl rfl) (Nat.le_of_ble_eq_true rfl) rfl ?_
  refine wx_iload_n (i := 1) dX9_lie_0 rfl rfl ?_
  refine wx_iconst (v := 0) dX9_lie_1 (by decide) ?_
  refine wx_bipush (v := 50) dX9_lie_2 (by decide) ?_
  refine wx_S3 dX9_lie_4 zPS_X9_in zLk_X9_116 (Nat.le_of_ble_eq_true rfl) (Or.inr rfl) ?_
  refine s_X9_in _ _ _ ?_
  refine wx_r1 ?_
  refine wx_neb (tgt := 12) dX9_lie_7 (by decide) (fun h7 => ?_) (fun h7 => ?_)
  · skip
    refine wx_aload_n (i := 0) dX9_lie_12 rfl rfl ?_
    refine wx_getIG (k := 128) dX9_lie_13 zF_X9_32 zKo_128 rfl (Nat.le_of_ble_eq_true rfl) ?_
    refine wx_istore_n (i := 2) dX9_lie_16 rfl (Nat.le_of_ble_eq_true rfl) rfl ?_
    refine wx_aload_n (i := 0) dX9_lie_17 rfl rfl ?_
    refine wx_iload_n (i := 1) dX9_lie_18 rfl rfl ?_
    refine wx_putIG (k := 128) dX9_lie_19 zF_X9_32 zKo_128 rfl (Nat.le_of_ble_eq_true rfl) rfl rfl ?_
    refine wx_iload_n (i := 2) dX9_lie_22 rfl rfl ?_
    refine wx_iret dX9_lie_23 rfl rfl (Or.inl rfl) ?_
    exact hK
  · contradiction --end
theorem s_X9_slack_bad {d : Nat} {K : List Value → zS → Prop} {mm : zM} {a : Int32} (hb : ¬ ((0 ≤ a ∧ a ≤ 100))) (hK : K [.int (-1)] (zG mm)) : wm (d + 1) mX9_slack [.ref 128, .int a] (zG mm) K := by
  refine wm_of2 (L0 := [some (.ref 128), some (.int a), none]) zCm_X9_slack (Or.inl rfl) (Nat.le_of_ble_eq_true rfl) rfl ?_
  refine wx_iload_n (i := 1) dX9_slack_0 rfl rfl ?_
  refine wx_iconst (v := 0) dX9_slack_1 (by decide) ?_
  refine wx_bipush (v := 100) dX9_slack_2 (by decide) ?_
  refine wx_S3 dX9_slack_4 zPS_X9_in zLk_X9_116 (Nat.le_of_ble_eq_true rfl) (Or.inr rfl) ?_
  refine s_X9_in _ _ _ ?_
  refine wx_r1 ?_
  refine wx_neb (tgt := 12) dX9_slack_7 (by decide) (fun h7 => ?_) (fun h7 => ?_)
  · skip
    exact (hb (by assumption)).elim
  · skip
    refine wx_iconst (v := (-1)) dX9_slack_10 (by decide) ?_
    refine wx_iret dX9_slack_11 rfl rfl (Or.inl rfl) ?_
    exact hK
theorem s_X9_slack_ok {d : Nat} {K : List Value → zS → Prop} {mm : zM} {a : Int32} (k1 : 0 ≤ a ∧ a ≤ 100) (hK : K [.int (mm 128 24)] (zG (zU mm 128 24 a))) : wm (d + 1) mX9_slack [.ref 128, .int a] (zG mm) K := by
  refine wm_of2 (L0 := [some (.ref 128), some (.int a), none]) zCm_X9_slack (Or.inl rfl) (Nat.le_of_ble_eq_true rfl) rfl ?_
  refine wx_iload_n (i := 1) dX9_slack_0 rfl rfl ?_
  refine wx_iconst (v := 0) dX9_slack_1 (by decide) ?_
  refine wx_bipush (v := 100) dX9_slack_2 (by decide) ?_
  refine wx_S3 dX9_slack_4 zPS_X9_in zLk_X9_116 (Nat.le_of_ble_eq_true rfl) (Or.inr rfl) ?_
  refine s_X9_in _ _ _ ?_
  refine wx_r1 ?_
  refine wx_neb (tgt := 12) dX9_slack_7 (by decide) (fun h7 => ?_) (fun h7 => ?_)
  · skip
    refine wx_aload_n (i := 0) dX9_slack_12 rfl rfl ?_
    refine wx_getIG (k := 128) dX9_slack_13 zF_X9_216 zKo_128 rfl (Nat.le_of_ble_eq_true rfl) ?_
    refine wx_istore_n (i := 2) dX9_slack_16 rfl (Nat.le_of_ble_eq_true rfl) rfl ?_
    refine wx_aload_n (i := 0) dX9_slack_17 rfl rfl ?_
    refine wx_iload_n (i := 1) dX9_slack_18 rfl rfl ?_
    refine wx_putIG (k := 128) dX9_slack_19 zF_X9_216 zKo_128 rfl (Nat.le_of_ble_eq_true rfl) rfl rfl ?_
    refine wx_iload_n (i := 2) dX9_slack_22 rfl rfl ?_
    refine wx_iret dX9_slack_23 rfl rfl (Or.inl rfl) ?_
    exact hK
  · contradiction --end
theorem s_X9_read_bad {d : Nat} {K : List Value → zS → Prop} {mm : zM} {a b c : Int32} {n : Nat} (hzn : mm 128 0 = nI n) (hb : ¬ ((0 ≤ a ∧ a ≤ 2) ∧ (0 ≤ b ∧ b ≤ nI n - 2) ∧ ((-1000 ≤ c ∧ c ≤ 1000) ∨ c = 5000))) (hK : K [.int 10000] (zG mm)) : wm (d + 1) mX9_read [.ref 128, .int a, .int b, .int c] (zG mm) K := by
  have hb : ¬ ((0 ≤ a ∧ a ≤ 2) ∧ (0 ≤ b ∧ b ≤ mm 128 0 - 2) ∧ ((-1000 ≤ c ∧ c ≤ 1000) ∨ c = 5000)) := by rw [hzn]; exact hb
  refine wm_of2 (L0 := [some (.ref 128), some (.int a), some (.int b), some (.int c), none]) zCm_X9_read (Or.inl rfl) (Nat.le_of_ble_eq_true rfl) rfl ?_
  refine wx_iload_n (i := 1) dX9_read_0 rfl rfl ?_
  refine wx_iconst (v := 0) dX9_read_1 (by decide) ?_
  refine wx_iconst (v := 2) dX9_read_2 (by decide) ?_
  refine wx_S3 dX9_read_3 zPS_X9_in zLk_X9_116 (Nat.le_of_ble_eq_true rfl) (Or.inr rfl) ?_
  refine s_X9_in _ _ _ ?_
  refine wx_r1 ?_
  refine wx_eqb (tgt := 43) dX9_read_6 (by decide) (fun h6 => ?_) (fun h6 => ?_)
  · skip
    refine wx_sipush (v := 10000) dX9_read_43 (by decide) ?_
    refine wx_iret dX9_read_46 rfl rfl (Or.inl rfl) ?_
    exact hK
  · skip
    refine wx_iload_n (i := 2) dX9_read_9 rfl rfl ?_
    refine wx_iconst (v := 0) dX9_read_10 (by decide) ?_
    refine wx_aload_n (i := 0) dX9_read_11 rfl rfl ?_
    refine wx_getIG (k := 128) dX9_read_12 zF_X9_7 zKo_128 rfl (Nat.le_of_ble_eq_true rfl) ?_
    refine wx_iconst (v := 2) dX9_read_15 (by decide) ?_
    refine wx_isub dX9_read_16 ?_
    refine wx_S3 dX9_read_17 zPS_X9_in zLk_X9_116 (Nat.le_of_ble_eq_true rfl) (Or.inr rfl) ?_
    refine s_X9_in _ _ _ ?_
    refine wx_r1 ?_
    refine wx_eqb (tgt := 43) dX9_read_20 (by decide) (fun h20 => ?_) (fun h20 => ?_)
    · skip
      refine wx_sipush (v := 10000) dX9_read_43 (by decide) ?_
      refine wx_iret dX9_read_46 rfl rfl (Or.inl rfl) ?_
      exact hK
    · skip
      refine wx_iload_n (i := 3) dX9_read_23 rfl rfl ?_
      refine wx_sipush (v := (-1000)) dX9_read_24 (by decide) ?_
      refine wx_sipush (v := 1000) dX9_read_27 (by decide) ?_
      refine wx_S3 dX9_read_30 zPS_X9_in zLk_X9_116 (Nat.le_of_ble_eq_true rfl) (Or.inr rfl) ?_
      refine s_X9_in _ _ _ ?_
      refine wx_r1 ?_
      refine wx_neb (tgt := 47) dX9_read_33 (by decide) (fun h33 => ?_) (fun h33 => ?_)
      · skip
        first | exact (hb ⟨by assumption, by assumption, Or.inl (by assumption)⟩).elim | exact (hb ⟨by assumption, by assumption, Or.inr (by assumption)⟩).elim
      · skip
        refine wx_iload_n (i := 3) dX9_read_36 rfl rfl ?_
        refine wx_sipush (v := 5000) dX9_read_37 (by decide) ?_
        refine wx_icmp_eq (tgt := 47) dX9_read_40 (by decide) (fun h40 => ?_) (fun h40 => ?_)
        · skip
          first | exact (hb ⟨by assumption, by assumption, Or.inl (by assumption)⟩).elim | exact (hb ⟨by assumption, by assumption, Or.inr (by assumption)⟩).elim
        · skip
          refine wx_sipush (v := 10000) dX9_read_43 (by decide) ?_
          refine wx_iret dX9_read_46 rfl rfl (Or.inl rfl) ?_
          exact hK
theorem lp_mread {d : Nat} {K : List Value → zS → Prop} {mm : zM} {t i : Nat} {c : Int32} (ht : t < 3) (hi : i < 15) (hK : K [.int (mm 131 (15 * t + i))] (zG (zU mm 131 (15 * t + i) c))) : wx (d) mX9_read 47 [some (.ref 128), some (.int (nI t)), some (.int (nI i)), some (.int c), none] [] (zG mm) K := by
  refine wx_aload_n (i := 0) dX9_read_47 rfl rfl ?_
  refine wx_getRG (k := 128) (t := 131) dX9_read_48 zF_X9_29 zKo_128 rfl (Nat.le_of_ble_eq_true rfl) zRf_128_6 ?_
  refine wx_bipush (v := 15) dX9_read_51 (by decide) ?_
  refine wx_iload_n (i := 1) dX9_read_53 rfl rfl ?_
  refine wx_imul dX9_read_54 ?_
  refine wx_iload_n (i := 2) dX9_read_55 rfl rfl ?_
  refine wx_iadd dX9_read_56 ?_
  refine wx_ialdG (k := 131) (j := 15 * t + i) dX9_read_57 zK_131 (Nat.le_of_ble_eq_true rfl) ?_ ?_ ?_
  · (simp only [zl_15, zi_nI, zi_mul, zi_add] <;> first | done | exact congrArg zi (by omega))
  · exact ⟨by omega, by decide⟩
  refine wx_istore dX9_read_58 (Nat.le_of_ble_eq_true rfl) rfl ?_
  refine wx_aload_n (i := 0) dX9_read_60 rfl rfl ?_
  refine wx_getRG (k := 128) (t := 131) dX9_read_61 zF_X9_29 zKo_128 rfl (Nat.le_of_ble_eq_true rfl) zRf_128_6 ?_
  refine wx_bipush (v := 15) dX9_read_64 (by decide) ?_
  refine wx_iload_n (i := 1) dX9_read_66 rfl rfl ?_
  refine wx_imul dX9_read_67 ?_
  refine wx_iload_n (i := 2) dX9_read_68 rfl rfl ?_
  refine wx_iadd dX9_read_69 ?_
  refine wx_iload_n (i := 3) dX9_read_70 rfl rfl ?_
  refine wx_iastG (k := 131) (j := 15 * t + i) dX9_read_71 zK_131 (Nat.le_of_ble_eq_true rfl) ?_ ?_ ?_
  · (simp only [zl_15, zi_nI, zi_mul, zi_add] <;> first | done | exact congrArg zi (by omega))
  · exact ⟨by omega, by decide⟩
  refine wx_iload dX9_read_72 rfl ?_
  refine wx_iret dX9_read_74 rfl rfl (Or.inl rfl) ?_
  exact hK
theorem s_X9_read_ok {d : Nat} {K : List Value → zS → Prop} {mm : zM} {t i n : Nat} {c : Int32} (hzn : mm 128 0 = nI n) (ht : t < 3) (hi : i < 15) (k1 : 0 ≤ nI t ∧ nI t ≤ 2) (k2 : 0 ≤ nI i ∧ nI i ≤ nI n - 2) (k3 : (-1000 ≤ c ∧ c ≤ 1000) ∨ c = 5000) (hK : K [.int (mm 131 (15 * t + i))] (zG (zU mm 131 (15 * t + i) c))) : wm (d + 1) mX9_read [.ref 128, .int (nI t), .int (nI i), .int c] (zG mm) K := by
  have k2 : 0 ≤ nI i ∧ nI i ≤ mm 128 0 - 2 := by rw [hzn]; exact k2
  refine wm_of2 (L0 := [some (.ref 128), some (.int (nI t)), some (.int (nI i)), some (.int c), none]) zCm_X9_read (Or.inl rfl) (Nat.le_of_ble_eq_true rfl) rfl ?_
  refine wx_iload_n (i := 1) dX9_read_0 rfl rfl ?_
  refine wx_iconst (v := 0) dX9_read_1 (by decide) ?_
  refine wx_iconst (v := 2) dX9_read_2 (by decide) ?_
  refine wx_S3 dX9_read_3 zPS_X9_in zLk_X9_116 (Nat.le_of_ble_eq_true rfl) (Or.inr rfl) ?_
  refine s_X9_in _ _ _ ?_
  refine wx_r1 ?_
  refine wx_eqb (tgt := 43) dX9_read_6 (by decide) (fun h6 => ?_) (fun h6 => ?_)
  · contradiction --end
  · skip
    refine wx_iload_n (i := 2) dX9_read_9 rfl rfl ?_
    refine wx_iconst (v := 0) dX9_read_10 (by decide) ?_
    refine wx_aload_n (i := 0) dX9_read_11 rfl rfl ?_
    refine wx_getIG (k := 128) dX9_read_12 zF_X9_7 zKo_128 rfl (Nat.le_of_ble_eq_true rfl) ?_
    refine wx_iconst (v := 2) dX9_read_15 (by decide) ?_
    refine wx_isub dX9_read_16 ?_
    refine wx_S3 dX9_read_17 zPS_X9_in zLk_X9_116 (Nat.le_of_ble_eq_true rfl) (Or.inr rfl) ?_
    refine s_X9_in _ _ _ ?_
    refine wx_r1 ?_
    refine wx_eqb (tgt := 43) dX9_read_20 (by decide) (fun h20 => ?_) (fun h20 => ?_)
    · contradiction --end
    · skip
      refine wx_iload_n (i := 3) dX9_read_23 rfl rfl ?_
      refine wx_sipush (v := (-1000)) dX9_read_24 (by decide) ?_
      refine wx_sipush (v := 1000) dX9_read_27 (by decide) ?_
      refine wx_S3 dX9_read_30 zPS_X9_in zLk_X9_116 (Nat.le_of_ble_eq_true rfl) (Or.inr rfl) ?_
      refine s_X9_in _ _ _ ?_
      refine wx_r1 ?_
      refine wx_neb (tgt := 47) dX9_read_33 (by decide) (fun h33 => ?_) (fun h33 => ?_)
      · skip
        exact lp_mread ht hi hK
      · skip
        refine wx_iload_n (i := 3) dX9_read_36 rfl rfl ?_
        refine wx_sipush (v := 5000) dX9_read_37 (by decide) ?_
        refine wx_icmp_eq (tgt := 47) dX9_read_40 (by decide) (fun h40 => ?_) (fun h40 => ?_)
        · skip
          exact lp_mread ht hi hK
        · skip
          refine wx_sipush (v := 10000) dX9_read_43 (by decide) ?_
          refine wx_iret dX9_read_46 rfl rfl (Or.inl rfl) ?_
          exact (absurd (k3.resolve_left h33) h40)
theorem s_X9_wire_bad {d : Nat} {K : List Value → zS → Prop} {mm : zM} {a b c : Int32} {n : Nat} (hzn : mm 128 0 = nI n) (hb : ¬ ((0 ≤ a ∧ a ≤ nI n - 1) ∧ (0 ≤ b ∧ b ≤ nI n - 1) ∧ a < b ∧ (-100000 ≤ c ∧ c ≤ 100000))) (hK : K [.int (-1)] (zG mm)) : wm (d + 2) mX9_wire [.ref 128, .int a, .int b, .int c] (zG mm) K := by
  refine wm_of2 (L0 := [some (.ref 128), some (.int a), some (.int b), some (.int c)]) zCm_X9_wire (Or.inl rfl) (Nat.le_of_ble_eq_true rfl) rfl ?_
  refine wx_aload_n (i := 0) dX9_wire_0 rfl rfl ?_
  refine wx_iload_n (i := 1) dX9_wire_1 rfl rfl ?_
  refine wx_V1 dX9_wire_2 zPV_X9_isZone zLk_X9_130 rfl (Nat.le_of_ble_eq_true rfl) (Nat.le_of_ble_eq_true rfl) (Or.inr rfl) ?_
  refine s_X9_isZone _ ?_
  rw [hzn]
  refine wx_r1 ?_
  refine wx_eqb (tgt := 32) dX9_wire_5 (by decide) (fun h5 => ?_) (fun h5 => ?_)
  · skip
    refine wx_iconst (v := (-1)) dX9_wire_32 (by decide) ?_
    refine wx_iret dX9_wire_33 rfl rfl (Or.inl rfl) ?_
    exact hK
  · skip
    refine wx_aload_n (i := 0) dX9_wire_8 rfl rfl ?_
    refine wx_iload_n (i := 2) dX9_wire_9 rfl rfl ?_
    refine wx_V1 dX9_wire_10 zPV_X9_isZone zLk_X9_130 rfl (Nat.le_of_ble_eq_true rfl) (Nat.le_of_ble_eq_true rfl) (Or.inr rfl) ?_
    refine s_X9_isZone _ ?_
    rw [hzn]
    refine wx_r1 ?_
    refine wx_eqb (tgt := 32) dX9_wire_13 (by decide) (fun h13 => ?_) (fun h13 => ?_)
    · skip
      refine wx_iconst (v := (-1)) dX9_wire_32 (by decide) ?_
      refine wx_iret dX9_wire_33 rfl rfl (Or.inl rfl) ?_
      exact hK
    · skip
      refine wx_iload_n (i := 1) dX9_wire_16 rfl rfl ?_
      refine wx_iload_n (i := 2) dX9_wire_17 rfl rfl ?_
      refine wx_icmp_ge (tgt := 32) dX9_wire_18 (by decide) (fun h18 => ?_) (fun h18 => ?_)
      · skip
        refine wx_iconst (v := (-1)) dX9_wire_32 (by decide) ?_
        refine wx_iret dX9_wire_33 rfl rfl (Or.inl rfl) ?_
        exact hK
      · skip
        refine wx_iload_n (i := 3) dX9_wire_21 rfl rfl ?_
        refine wx_ldc dX9_wire_22 zKc_X9_134 ?_
        refine wx_ldc dX9_wire_24 zKc_X9_135 ?_
        refine wx_S3 dX9_wire_26 zPS_X9_in zLk_X9_116 (Nat.le_of_ble_eq_true rfl) (Or.inr rfl) ?_
        refine s_X9_in _ _ _ ?_
        refine wx_r1 ?_
        refine wx_neb (tgt := 34) dX9_wire_29 (by decide) (fun h29 => ?_) (fun h29 => ?_)
        · skip
          exact (hb ⟨by assumption, by assumption, z_nle (by assumption), by assumption⟩).elim
        · skip
          refine wx_iconst (v := (-1)) dX9_wire_32 (by decide) ?_
          refine wx_iret dX9_wire_33 rfl rfl (Or.inl rfl) ?_
          exact hK
theorem s_X9_wire_full {d : Nat} {K : List Value → zS → Prop} {mm : zM} {a b c : Int32} {n : Nat} (hzn : mm 128 0 = nI n) (k1 : 0 ≤ a ∧ a ≤ nI n - 1) (k2 : 0 ≤ b ∧ b ≤ nI n - 1) (k3 : a < b) (k4 : -100000 ≤ c ∧ c ≤ 100000) (hw : mm 128 8 = 12) (hK : K [.int (-3)] (zG mm)) : wm (d + 2) mX9_wire [.ref 128, .int a, .int b, .int c] (zG mm) K := by
  refine wm_of2 (L0 := [some (.ref 128), some (.int a), some (.int b), some (.int c)]) zCm_X9_wire (Or.inl rfl) (Nat.le_of_ble_eq_true rfl) rfl ?_
  refine wx_aload_n (i := 0) dX9_wire_0 rfl rfl ?_
  refine wx_iload_n (i := 1) dX9_wire_1 rfl rfl ?_
  refine wx_V1 dX9_wire_2 zPV_X9_isZone zLk_X9_130 rfl (Nat.le_of_ble_eq_true rfl) (Nat.le_of_ble_eq_true rfl) (Or.inr rfl) ?_
  refine s_X9_isZone _ ?_
  rw [hzn]
  refine wx_r1 ?_
  refine wx_eqb (tgt := 32) dX9_wire_5 (by decide) (fun h5 => ?_) (fun h5 => ?_)
  · contradiction --end
  · skip
    refine wx_aload_n (i := 0) dX9_wire_8 rfl rfl ?_
    refine wx_iload_n (i := 2) dX9_wire_9 rfl rfl ?_
    refine wx_V1 dX9_wire_10 zPV_X9_isZone zLk_X9_130 rfl (Nat.le_of_ble_eq_true rfl) (Nat.le_of_ble_eq_true rfl) (Or.inr rfl) ?_
    refine s_X9_isZone _ ?_
    rw [hzn]
    refine wx_r1 ?_
    refine wx_eqb (tgt := 32) dX9_wire_13 (by decide) (fun h13 => ?_) (fun h13 => ?_)
    · contradiction --end
    · skip
      refine wx_iload_n (i := 1) dX9_wire_16 rfl rfl ?_
      refine wx_iload_n (i := 2) dX9_wire_17 rfl rfl ?_
      refine wx_icmp_ge (tgt := 32) dX9_wire_18 (by decide) (fun h18 => ?_) (fun h18 => ?_)
      · exact absurd h18 (z_ltn k3) --end
      · skip
        refine wx_iload_n (i := 3) dX9_wire_21 rfl rfl ?_
        refine wx_ldc dX9_wire_22 zKc_X9_134 ?_
        refine wx_ldc dX9_wire_24 zKc_X9_135 ?_
        refine wx_S3 dX9_wire_26 zPS_X9_in zLk_X9_116 (Nat.le_of_ble_eq_true rfl) (Or.inr rfl) ?_
        refine s_X9_in _ _ _ ?_
        refine wx_r1 ?_
        refine wx_neb (tgt := 34) dX9_wire_29 (by decide) (fun h29 => ?_) (fun h29 => ?_)
        · skip
          refine wx_aload_n (i := 0) dX9_wire_34 rfl rfl ?_
          refine wx_getIG (k := 128) dX9_wire_35 zF_X9_110 zKo_128 rfl (Nat.le_of_ble_eq_true rfl) ?_
          refine wx_bipush (v := 12) dX9_wire_38 (by decide) ?_
          refine wx_icmp_ne (tgt := 46) dX9_wire_40 (by decide) (fun h40 => ?_) (fun h40 => ?_)
          · exact absurd hw h40 --end
          · skip
            refine wx_bipush (v := (-3)) dX9_wire_43 (by decide) ?_
            refine wx_iret dX9_wire_45 rfl rfl (Or.inl rfl) ?_
            exact hK
        · contradiction --end
theorem s_X9_wire_ok {d : Nat} {K : List Value → zS → Prop} {mm : zM} {a b c : Int32} {n : Nat} (hzn : mm 128 0 = nI n) (k1 : 0 ≤ a ∧ a ≤ nI n - 1) (k2 : 0 ≤ b ∧ b ≤ nI n - 1) (k3 : a < b) (k4 : -100000 ≤ c ∧ c ≤ 100000) {w : Nat} (hw : w < 12) (hw2 : mm 128 8 = nI w) (hK : K [.int (nI (w + 1))] (zG (zU (zU (zU (zU mm 132 w a) 133 w b) 134 w c) 128 8 (nI (w + 1))))) : wm (d + 2) mX9_wire [.ref 128, .int a, .int b, .int c] (zG mm) K := by
  refine wm_of2 (L0 := [some (.ref 128), some (.int a), some (.int b), some (.int c)]) zCm_X9_wire (Or.inl rfl) (Nat.le_of_ble_eq_true rfl) rfl ?_
  refine wx_aload_n (i := 0) dX9_wire_0 rfl rfl ?_
  refine wx_iload_n (i := 1) dX9_wire_1 rfl rfl ?_
  refine wx_V1 dX9_wire_2 zPV_X9_isZone zLk_X9_130 rfl (Nat.le_of_ble_eq_true rfl) (Nat.le_of_ble_eq_true rfl) (Or.inr rfl) ?_
  refine s_X9_isZone _ ?_
  rw [hzn]
  refine wx_r1 ?_
  refine wx_eqb (tgt := 32) dX9_wire_5 (by decide) (fun h5 => ?_) (fun h5 => ?_)
  · contradiction --end
  · skip
    refine wx_aload_n (i := 0) dX9_wire_8 rfl rfl ?_
    refine wx_iload_n (i := 2) dX9_wire_9 rfl rfl ?_
    refine wx_V1 dX9_wire_10 zPV_X9_isZone zLk_X9_130 rfl (Nat.le_of_ble_eq_true rfl) (Nat.le_of_ble_eq_true rfl) (Or.inr rfl) ?_
    refine s_X9_isZone _ ?_
    rw [hzn]
    refine wx_r1 ?_
    refine wx_eqb (tgt := 32) dX9_wire_13 (by decide) (fun h13 => ?_) (fun h13 => ?_)
    · contradiction --end
    · skip
      refine wx_iload_n (i := 1) dX9_wire_16 rfl rfl ?_
      refine wx_iload_n (i := 2) dX9_wire_17 rfl rfl ?_
      refine wx_icmp_ge (tgt := 32) dX9_wire_18 (by decide) (fun h18 => ?_) (fun h18 => ?_)
      · exact absurd h18 (z_ltn k3) --end
      · skip
        refine wx_iload_n (i := 3) dX9_wire_21 rfl rfl ?_
        refine wx_ldc dX9_wire_22 zKc_X9_134 ?_
        refine wx_ldc dX9_wire_24 zKc_X9_135 ?_
        refine wx_S3 dX9_wire_26 zPS_X9_in zLk_X9_116 (Nat.le_of_ble_eq_true rfl) (Or.inr rfl) ?_
        refine s_X9_in _ _ _ ?_
        refine wx_r1 ?_
        refine wx_neb (tgt := 34) dX9_wire_29 (by decide) (fun h29 => ?_) (fun h29 => ?_)
        · skip
          refine wx_aload_n (i := 0) dX9_wire_34 rfl rfl ?_
          refine wx_getIG (k := 128) dX9_wire_35 zF_X9_110 zKo_128 rfl (Nat.le_of_ble_eq_true rfl) ?_
          refine wx_bipush (v := 12) dX9_wire_38 (by decide) ?_
          refine wx_icmp_ne (tgt := 46) dX9_wire_40 (by decide) (fun h40 => ?_) (fun h40 => ?_)
          · skip
            refine wx_aload_n (i := 0) dX9_wire_46 rfl rfl ?_
            refine wx_getRG (k := 128) (t := 132) dX9_wire_47 zF_X9_35 zKo_128 rfl (Nat.le_of_ble_eq_true rfl) zRf_128_9 ?_
            refine wx_aload_n (i := 0) dX9_wire_50 rfl rfl ?_
            refine wx_getIG (k := 128) dX9_wire_51 zF_X9_110 zKo_128 rfl (Nat.le_of_ble_eq_true rfl) ?_
            refine wx_iload_n (i := 1) dX9_wire_54 rfl rfl ?_
            refine wx_iastG (k := 132) (j := w) dX9_wire_55 zK_132 (Nat.le_of_ble_eq_true rfl) ?_ ?_ ?_
            · exact hw2
            · exact ⟨hw, by decide⟩
            refine wx_aload_n (i := 0) dX9_wire_56 rfl rfl ?_
            refine wx_getRG (k := 128) (t := 133) dX9_wire_57 zF_X9_38 zKo_128 rfl (Nat.le_of_ble_eq_true rfl) zRf_128_10 ?_
            refine wx_aload_n (i := 0) dX9_wire_60 rfl rfl ?_
            refine wx_getIG (k := 128) dX9_wire_61 zF_X9_110 zKo_128 rfl (Nat.le_of_ble_eq_true rfl) ?_
            refine wx_iload_n (i := 2) dX9_wire_64 rfl rfl ?_
            refine wx_iastG (k := 133) (j := w) dX9_wire_65 zK_133 (Nat.le_of_ble_eq_true rfl) ?_ ?_ ?_
            · exact hw2
            · exact ⟨hw, by decide⟩
            refine wx_aload_n (i := 0) dX9_wire_66 rfl rfl ?_
            refine wx_getRG (k := 128) (t := 134) dX9_wire_67 zF_X9_41 zKo_128 rfl (Nat.le_of_ble_eq_true rfl) zRf_128_11 ?_
            refine wx_aload_n (i := 0) dX9_wire_70 rfl rfl ?_
            refine wx_getIG (k := 128) dX9_wire_71 zF_X9_110 zKo_128 rfl (Nat.le_of_ble_eq_true rfl) ?_
            refine wx_iload_n (i := 3) dX9_wire_74 rfl rfl ?_
            refine wx_iastG (k := 134) (j := w) dX9_wire_75 zK_134 (Nat.le_of_ble_eq_true rfl) ?_ ?_ ?_
            · exact hw2
            · exact ⟨hw, by decide⟩
            refine wx_aload_n (i := 0) dX9_wire_76 rfl rfl ?_
            refine wx_dup dX9_wire_77 rfl ?_
            refine wx_getIG (k := 128) dX9_wire_78 zF_X9_110 zKo_128 rfl (Nat.le_of_ble_eq_true rfl) ?_
            refine wx_iconst (v := 1) dX9_wire_81 (by decide) ?_
            refine wx_iadd dX9_wire_82 ?_
            refine wx_putIG (k := 128) dX9_wire_83 zF_X9_110 zKo_128 rfl (Nat.le_of_ble_eq_true rfl) rfl rfl ?_
            refine wx_aload_n (i := 0) dX9_wire_86 rfl rfl ?_
            refine wx_getIG (k := 128) dX9_wire_87 zF_X9_110 zKo_128 rfl (Nat.le_of_ble_eq_true rfl) ?_
            refine wx_iret dX9_wire_90 rfl rfl (Or.inl rfl) ?_
            rw [show zU (zU (zU mm 132 w a) 133 w b) 134 w c 128 8 = nI w from hw2, nI_1]
            exact hK
          · exact absurd (show mm 128 8 = nI 12 from h40) (by rw [hw2, nI_eq (by omega) (by decide)]; omega) --end
        · contradiction --end
theorem s_X9_warm_bad {d : Nat} {K : List Value → zS → Prop} {mm : zM} {a b : Int32} (hb : ¬ ((0 ≤ a ∧ a ≤ 8) ∧ ((-100000) ≤ b ∧ b ≤ 100000))) (hK : K [.int (-1000000)] (zG mm)) : wm (d + 1) mX9_warm [.ref 128, .int a, .int b] (zG mm) K := by
  refine wm_of2 (L0 := [some (.ref 128), some (.int a), some (.int b), none]) zCm_X9_warm (Or.inl rfl) (Nat.le_of_ble_eq_true rfl) rfl ?_
  refine wx_iload_n (i := 1) dX9_warm_0 rfl rfl ?_
  refine wx_iconst (v := 0) dX9_warm_1 (by decide) ?_
  refine wx_bipush (v := 8) dX9_warm_2 (by decide) ?_
  refine wx_S3 dX9_warm_4 zPS_X9_in zLk_X9_116 (Nat.le_of_ble_eq_true rfl) (Or.inr rfl) ?_
  refine s_X9_in _ _ _ ?_
  refine wx_r1 ?_
  refine wx_eqb (tgt := 21) dX9_warm_7 (by decide) (fun h7 => ?_) (fun h7 => ?_)
  · skip
    refine wx_ldc dX9_warm_21 zKc_X9_136 ?_
    refine wx_iret dX9_warm_23 rfl rfl (Or.inl rfl) ?_
    exact hK
  · skip
    refine wx_iload_n (i := 2) dX9_warm_10 rfl rfl ?_
    refine wx_ldc dX9_warm_11 zKc_X9_134 ?_
    refine wx_ldc dX9_warm_13 zKc_X9_135 ?_
    refine wx_S3 dX9_warm_15 zPS_X9_in zLk_X9_116 (Nat.le_of_ble_eq_true rfl) (Or.inr rfl) ?_
    refine s_X9_in _ _ _ ?_
    refine wx_r1 ?_
    refine wx_neb (tgt := 24) dX9_warm_18 (by decide) (fun h18 => ?_) (fun h18 => ?_)
    · skip
      exact (hb ⟨by assumption, by assumption⟩).elim
    · skip
      refine wx_ldc dX9_warm_21 zKc_X9_136 ?_
      refine wx_iret dX9_warm_23 rfl rfl (Or.inl rfl) ?_
      exact hK
theorem s_X9_warm_ok {d : Nat} {K : List Value → zS → Prop} {mm : zM} {z : Nat} {b : Int32} (hz : z < 9) (k1 : 0 ≤ nI z ∧ nI z ≤ 8) (k2 : -100000 ≤ b ∧ b ≤ 100000) (hK : K [.int (mm 141 z)] (zG (zU mm 141 z b))) : wm (d + 1) mX9_warm [.ref 128, .int (nI z), .int b] (zG mm) K := by
  refine wm_of2 (L0 := [some (.ref 128), some (.int (nI z)), some (.int b), none]) zCm_X9_warm (Or.inl rfl) (Nat.le_of_ble_eq_true rfl) rfl ?_
  refine wx_iload_n (i := 1) dX9_warm_0 rfl rfl ?_
  refine wx_iconst (v := 0) dX9_warm_1 (by decide) ?_
  refine wx_bipush (v := 8) dX9_warm_2 (by decide) ?_
  refine wx_S3 dX9_warm_4 zPS_X9_in zLk_X9_116 (Nat.le_of_ble_eq_true rfl) (Or.inr rfl) ?_
  refine s_X9_in _ _ _ ?_
  refine wx_r1 ?_
  refine wx_eqb (tgt := 21) dX9_warm_7 (by decide) (fun h7 => ?_) (fun h7 => ?_)
  · contradiction --end
  · skip
    refine wx_iload_n (i := 2) dX9_warm_10 rfl rfl ?_
    refine wx_ldc dX9_warm_11 zKc_X9_134 ?_
    refine wx_ldc dX9_warm_13 zKc_X9_135 ?_
    refine wx_S3 dX9_warm_15 zPS_X9_in zLk_X9_116 (Nat.le_of_ble_eq_true rfl) (Or.inr rfl) ?_
    refine s_X9_in _ _ _ ?_
    refine wx_r1 ?_
    refine wx_neb (tgt := 24) dX9_warm_18 (by decide) (fun h18 => ?_) (fun h18 => ?_)
    · skip
      refine wx_aload_n (i := 0) dX9_warm_24 rfl rfl ?_
      refine wx_getRG (k := 128) (t := 141) dX9_warm_25 zF_X9_65 zKo_128 rfl (Nat.le_of_ble_eq_true rfl) zRf_128_20 ?_
      refine wx_iload_n (i := 1) dX9_warm_28 rfl rfl ?_
      refine wx_ialdG (k := 141) dX9_warm_29 zK_141 (Nat.le_of_ble_eq_true rfl) rfl ?_ ?_
      · exact ⟨hz, by decide⟩
      refine wx_istore_n (i := 3) dX9_warm_30 rfl (Nat.le_of_ble_eq_true rfl) rfl ?_
      refine wx_aload_n (i := 0) dX9_warm_31 rfl rfl ?_
      refine wx_getRG (k := 128) (t := 141) dX9_warm_32 zF_X9_65 zKo_128 rfl (Nat.le_of_ble_eq_true rfl) zRf_128_20 ?_
      refine wx_iload_n (i := 1) dX9_warm_35 rfl rfl ?_
      refine wx_iload_n (i := 2) dX9_warm_36 rfl rfl ?_
      refine wx_iastG (k := 141) dX9_warm_37 zK_141 (Nat.le_of_ble_eq_true rfl) rfl ?_ ?_
      · exact ⟨hz, by decide⟩
      refine wx_iload_n (i := 3) dX9_warm_38 rfl rfl ?_
      refine wx_iret dX9_warm_39 rfl rfl (Or.inl rfl) ?_
      exact hK
    · contradiction --end
theorem s_X9_warmth_bad {d : Nat} {K : List Value → zS → Prop} {mm : zM} {a : Int32} (hb : ¬ ((0 ≤ a ∧ a ≤ 8))) (hK : K [.int (-1000000)] (zG mm)) : wm (d + 1) mX9_warmth [.ref 128, .int a] (zG mm) K := by
  refine wm_of2 (L0 := [some (.ref 128), some (.int a)]) zCm_X9_warmth (Or.inl rfl) (Nat.le_of_ble_eq_true rfl) rfl ?_
  refine wx_iload_n (i := 1) dX9_warmth_0 rfl rfl ?_
  refine wx_iconst (v := 0) dX9_warmth_1 (by decide) ?_
  refine wx_bipush (v := 8) dX9_warmth_2 (by decide) ?_
  refine wx_S3 dX9_warmth_4 zPS_X9_in zLk_X9_116 (Nat.le_of_ble_eq_true rfl) (Or.inr rfl) ?_
  refine s_X9_in _ _ _ ?_
  refine wx_r1 ?_
  refine wx_eqb (tgt := 19) dX9_warmth_7 (by decide) (fun h7 => ?_) (fun h7 => ?_)
  · skip
    refine wx_ldc dX9_warmth_19 zKc_X9_136 ?_
    refine wx_iret dX9_warmth_21 rfl rfl (Or.inl rfl) ?_
    exact hK
  · skip
    exact (hb (by assumption)).elim
theorem s_X9_warmth_ok {d : Nat} {K : List Value → zS → Prop} {mm : zM} {z : Nat} (hz : z < 9) (k1 : 0 ≤ nI z ∧ nI z ≤ 8) (hK : K [.int (mm 141 z)] (zG mm)) : wm (d + 1) mX9_warmth [.ref 128, .int (nI z)] (zG mm) K := by
  refine wm_of2 (L0 := [some (.ref 128), some (.int (nI z))]) zCm_X9_warmth (Or.inl rfl) (Nat.le_of_ble_eq_true rfl) rfl ?_
  refine wx_iload_n (i := 1) dX9_warmth_0 rfl rfl ?_
  refine wx_iconst (v := 0) dX9_warmth_1 (by decide) ?_
  refine wx_bipush (v := 8) dX9_warmth_2 (by decide) ?_
  refine wx_S3 dX9_warmth_4 zPS_X9_in zLk_X9_116 (Nat.le_of_ble_eq_true rfl) (Or.inr rfl) ?_
  refine s_X9_in _ _ _ ?_
  refine wx_r1 ?_
  refine wx_eqb (tgt := 19) dX9_warmth_7 (by decide) (fun h7 => ?_) (fun h7 => ?_)
  · contradiction --end
  · skip
    refine wx_aload_n (i := 0) dX9_warmth_10 rfl rfl ?_
    refine wx_getRG (k := 128) (t := 141) dX9_warmth_11 zF_X9_65 zKo_128 rfl (Nat.le_of_ble_eq_true rfl) zRf_128_20 ?_
    refine wx_iload_n (i := 1) dX9_warmth_14 rfl rfl ?_
    refine wx_ialdG (k := 141) dX9_warmth_15 zK_141 (Nat.le_of_ble_eq_true rfl) rfl ?_ ?_
    · exact ⟨hz, by decide⟩
    refine wx_goto (tgt := 21) dX9_warmth_16 (by decide) ?_
    refine wx_iret dX9_warmth_21 rfl rfl (Or.inl rfl) ?_
    exact hK
theorem s_X9_grit_bad {d : Nat} {K : List Value → zS → Prop} {mm : zM} {a b : Int32} (hb : ¬ ((1 ≤ a ∧ a ≤ 100) ∧ (0 ≤ b ∧ b ≤ 200))) (hK : K [.int (-1)] (zG mm)) : wm (d + 1) mX9_grit [.ref 128, .int a, .int b] (zG mm) K := by
  refine wm_of2 (L0 := [some (.ref 128), some (.int a), some (.int b)]) zCm_X9_grit (Or.inl rfl) (Nat.le_of_ble_eq_true rfl) rfl ?_
  refine wx_iload_n (i := 1) dX9_grit_0 rfl rfl ?_
  refine wx_iconst (v := 1) dX9_grit_1 (by decide) ?_
  refine wx_bipush (v := 100) dX9_grit_2 (by decide) ?_
  refine wx_S3 dX9_grit_4 zPS_X9_in zLk_X9_116 (Nat.le_of_ble_eq_true rfl) (Or.inr rfl) ?_
  refine s_X9_in _ _ _ ?_
  refine wx_r1 ?_
  refine wx_eqb (tgt := 21) dX9_grit_7 (by decide) (fun h7 => ?_) (fun h7 => ?_)
  · skip
    refine wx_iconst (v := (-1)) dX9_grit_21 (by decide) ?_
    refine wx_iret dX9_grit_22 rfl rfl (Or.inl rfl) ?_
    exact hK
  · skip
    refine wx_iload_n (i := 2) dX9_grit_10 rfl rfl ?_
    refine wx_iconst (v := 0) dX9_grit_11 (by decide) ?_
    refine wx_sipush (v := 200) dX9_grit_12 (by decide) ?_
    refine wx_S3 dX9_grit_15 zPS_X9_in zLk_X9_116 (Nat.le_of_ble_eq_true rfl) (Or.inr rfl) ?_
    refine s_X9_in _ _ _ ?_
    refine wx_r1 ?_
    refine wx_neb (tgt := 23) dX9_grit_18 (by decide) (fun h18 => ?_) (fun h18 => ?_)
    · skip
      exact (hb ⟨by assumption, by assumption⟩).elim
    · skip
      refine wx_iconst (v := (-1)) dX9_grit_21 (by decide) ?_
      refine wx_iret dX9_grit_22 rfl rfl (Or.inl rfl) ?_
      exact hK
theorem s_X9_grit_full {d : Nat} {K : List Value → zS → Prop} {mm : zM} {a b : Int32} (k1 : 1 ≤ a ∧ a ≤ 100) (k2 : 0 ≤ b ∧ b ≤ 200) (hw : mm 128 21 = 6) (hK : K [.int (-3)] (zG mm)) : wm (d + 1) mX9_grit [.ref 128, .int a, .int b] (zG mm) K := by
  refine wm_of2 (L0 := [some (.ref 128), some (.int a), some (.int b)]) zCm_X9_grit (Or.inl rfl) (Nat.le_of_ble_eq_true rfl) rfl ?_
  refine wx_iload_n (i := 1) dX9_grit_0 rfl rfl ?_
  refine wx_iconst (v := 1) dX9_grit_1 (by decide) ?_
  refine wx_bipush (v := 100) dX9_grit_2 (by decide) ?_
  refine wx_S3 dX9_grit_4 zPS_X9_in zLk_X9_116 (Nat.le_of_ble_eq_true rfl) (Or.inr rfl) ?_
  refine s_X9_in _ _ _ ?_
  refine wx_r1 ?_
  refine wx_eqb (tgt := 21) dX9_grit_7 (by decide) (fun h7 => ?_) (fun h7 => ?_)
  · contradiction --end
  · skip
    refine wx_iload_n (i := 2) dX9_grit_10 rfl rfl ?_
    refine wx_iconst (v := 0) dX9_grit_11 (by decide) ?_
    refine wx_sipush (v := 200) dX9_grit_12 (by decide) ?_
    refine wx_S3 dX9_grit_15 zPS_X9_in zLk_X9_116 (Nat.le_of_ble_eq_true rfl) (Or.inr rfl) ?_
    refine s_X9_in _ _ _ ?_
    refine wx_r1 ?_
    refine wx_neb (tgt := 23) dX9_grit_18 (by decide) (fun h18 => ?_) (fun h18 => ?_)
    · skip
      refine wx_aload_n (i := 0) dX9_grit_23 rfl rfl ?_
      refine wx_getIG (k := 128) dX9_grit_24 zF_X9_213 zKo_128 rfl (Nat.le_of_ble_eq_true rfl) ?_
      refine wx_bipush (v := 6) dX9_grit_27 (by decide) ?_
      refine wx_icmp_ne (tgt := 35) dX9_grit_29 (by decide) (fun h29 => ?_) (fun h29 => ?_)
      · exact absurd hw h29 --end
      · skip
        refine wx_bipush (v := (-3)) dX9_grit_32 (by decide) ?_
        refine wx_iret dX9_grit_34 rfl rfl (Or.inl rfl) ?_
        exact hK
    · contradiction --end
theorem s_X9_grit_ok {d : Nat} {K : List Value → zS → Prop} {mm : zM} {a b : Int32} (k1 : 1 ≤ a ∧ a ≤ 100) (k2 : 0 ≤ b ∧ b ≤ 200) {w : Nat} (hw : w < 6) (hw2 : mm 128 21 = nI w) (hK : K [.int (nI w)] (zG (zU (zU (zU mm 142 w a) 143 w b) 128 21 (nI (w + 1))))) : wm (d + 1) mX9_grit [.ref 128, .int a, .int b] (zG mm) K := by
  refine wm_of2 (L0 := [some (.ref 128), some (.int a), some (.int b)]) zCm_X9_grit (Or.inl rfl) (Nat.le_of_ble_eq_true rfl) rfl ?_
  refine wx_iload_n (i := 1) dX9_grit_0 rfl rfl ?_
  refine wx_iconst (v := 1) dX9_grit_1 (by decide) ?_
  refine wx_bipush (v := 100) dX9_grit_2 (by decide) ?_
  refine wx_S3 dX9_grit_4 zPS_X9_in zLk_X9_116 (Nat.le_of_ble_eq_true rfl) (Or.inr rfl) ?_
  refine s_X9_in _ _ _ ?_
  refine wx_r1 ?_
  refine wx_eqb (tgt := 21) dX9_grit_7 (by decide) (fun h7 => ?_) (fun h7 => ?_)
  · contradiction --end
  · skip
    refine wx_iload_n (i := 2) dX9_grit_10 rfl rfl ?_
    refine wx_iconst (v := 0) dX9_grit_11 (by decide) ?_
    refine wx_sipush (v := 200) dX9_grit_12 (by decide) ?_
    refine wx_S3 dX9_grit_15 zPS_X9_in zLk_X9_116 (Nat.le_of_ble_eq_true rfl) (Or.inr rfl) ?_
    refine s_X9_in _ _ _ ?_
    refine wx_r1 ?_
    refine wx_neb (tgt := 23) dX9_grit_18 (by decide) (fun h18 => ?_) (fun h18 => ?_)
    · skip
      refine wx_aload_n (i := 0) dX9_grit_23 rfl rfl ?_
      refine wx_getIG (k := 128) dX9_grit_24 zF_X9_213 zKo_128 rfl (Nat.le_of_ble_eq_true rfl) ?_
      refine wx_bipush (v := 6) dX9_grit_27 (by decide) ?_
      refine wx_icmp_ne (tgt := 35) dX9_grit_29 (by decide) (fun h29 => ?_) (fun h29 => ?_)
      · skip
        refine wx_aload_n (i := 0) dX9_grit_35 rfl rfl ?_
        refine wx_getRG (k := 128) (t := 142) dX9_grit_36 zF_X9_68 zKo_128 rfl (Nat.le_of_ble_eq_true rfl) zRf_128_22 ?_
        refine wx_aload_n (i := 0) dX9_grit_39 rfl rfl ?_
        refine wx_getIG (k := 128) dX9_grit_40 zF_X9_213 zKo_128 rfl (Nat.le_of_ble_eq_true rfl) ?_
        refine wx_iload_n (i := 1) dX9_grit_43 rfl rfl ?_
        refine wx_iastG (k := 142) (j := w) dX9_grit_44 zK_142 (Nat.le_of_ble_eq_true rfl) ?_ ?_ ?_
        · exact hw2
        · exact ⟨hw, by decide⟩
        refine wx_aload_n (i := 0) dX9_grit_45 rfl rfl ?_
        refine wx_getRG (k := 128) (t := 143) dX9_grit_46 zF_X9_71 zKo_128 rfl (Nat.le_of_ble_eq_true rfl) zRf_128_23 ?_
        refine wx_aload_n (i := 0) dX9_grit_49 rfl rfl ?_
        refine wx_getIG (k := 128) dX9_grit_50 zF_X9_213 zKo_128 rfl (Nat.le_of_ble_eq_true rfl) ?_
        refine wx_iload_n (i := 2) dX9_grit_53 rfl rfl ?_
        refine wx_iastG (k := 143) (j := w) dX9_grit_54 zK_143 (Nat.le_of_ble_eq_true rfl) ?_ ?_ ?_
        · exact hw2
        · exact ⟨hw, by decide⟩
        refine wx_aload_n (i := 0) dX9_grit_55 rfl rfl ?_
        refine wx_dup dX9_grit_56 rfl ?_
        refine wx_getIG (k := 128) dX9_grit_57 zF_X9_213 zKo_128 rfl (Nat.le_of_ble_eq_true rfl) ?_
        refine wx_iconst (v := 1) dX9_grit_60 (by decide) ?_
        refine wx_iadd dX9_grit_61 ?_
        refine wx_putIG (k := 128) dX9_grit_62 zF_X9_213 zKo_128 rfl (Nat.le_of_ble_eq_true rfl) rfl rfl ?_
        refine wx_aload_n (i := 0) dX9_grit_65 rfl rfl ?_
        refine wx_getIG (k := 128) dX9_grit_66 zF_X9_213 zKo_128 rfl (Nat.le_of_ble_eq_true rfl) ?_
        refine wx_iconst (v := 1) dX9_grit_69 (by decide) ?_
        refine wx_isub dX9_grit_70 ?_
        refine wx_iret dX9_grit_71 rfl rfl (Or.inl rfl) ?_
        rw [show zU (zU mm 142 w a) 143 w b 128 21 = nI w from hw2, nI_1, zU_same, nI_pred]
        exact hK
      · exact absurd (show mm 128 21 = nI 6 from h29) (by rw [hw2, nI_eq (by omega) (by decide)]; omega) --end
    · contradiction --end
theorem s_X9_bend_bad {d : Nat} {K : List Value → zS → Prop} {mm : zM} {a b c : Int32} {n : Nat} (hzn : mm 128 0 = nI n)  (hb : ¬ ((0 ≤ a ∧ a ≤ 6) ∧ (0 ≤ b ∧ b ≤ nI n - 1) ∧ ((-500) ≤ c ∧ c ≤ 500))) (hK : K [.int (-1000)] (zG mm)) : wm (d + 2) mX9_bend [.ref 128, .int a, .int b, .int c] (zG mm) K := by
  refine wm_of2 (L0 := [some (.ref 128), some (.int a), some (.int b), some (.int c), none]) zCm_X9_bend (Or.inl rfl) (Nat.le_of_ble_eq_true rfl) rfl ?_
  refine wx_iload_n (i := 1) dX9_bend_0 rfl rfl ?_
  refine wx_iconst (v := 0) dX9_bend_1 (by decide) ?_
  refine wx_bipush (v := 6) dX9_bend_2 (by decide) ?_
  refine wx_S3 dX9_bend_4 zPS_X9_in zLk_X9_116 (Nat.le_of_ble_eq_true rfl) (Or.inr rfl) ?_
  refine s_X9_in _ _ _ ?_
  refine wx_r1 ?_
  refine wx_eqb (tgt := 31) dX9_bend_7 (by decide) (fun h7 => ?_) (fun h7 => ?_)
  · skip
    refine wx_sipush (v := (-1000)) dX9_bend_31 (by decide) ?_
    refine wx_iret dX9_bend_34 rfl rfl (Or.inl rfl) ?_
    exact hK
  · skip
    refine wx_aload_n (i := 0) dX9_bend_10 rfl rfl ?_
    refine wx_iload_n (i := 2) dX9_bend_11 rfl rfl ?_
    refine wx_V1 dX9_bend_12 zPV_X9_isZone zLk_X9_130 rfl (Nat.le_of_ble_eq_true rfl) (Nat.le_of_ble_eq_true rfl) (Or.inr rfl) ?_
    refine s_X9_isZone _ ?_
    rw [hzn]
    refine wx_r1 ?_
    refine wx_eqb (tgt := 31) dX9_bend_15 (by decide) (fun h15 => ?_) (fun h15 => ?_)
    · skip
      refine wx_sipush (v := (-1000)) dX9_bend_31 (by decide) ?_
      refine wx_iret dX9_bend_34 rfl rfl (Or.inl rfl) ?_
      exact hK
    · skip
      refine wx_iload_n (i := 3) dX9_bend_18 rfl rfl ?_
      refine wx_sipush (v := (-500)) dX9_bend_19 (by decide) ?_
      refine wx_sipush (v := 500) dX9_bend_22 (by decide) ?_
      refine wx_S3 dX9_bend_25 zPS_X9_in zLk_X9_116 (Nat.le_of_ble_eq_true rfl) (Or.inr rfl) ?_
      refine s_X9_in _ _ _ ?_
      refine wx_r1 ?_
      refine wx_neb (tgt := 35) dX9_bend_28 (by decide) (fun h28 => ?_) (fun h28 => ?_)
      · skip
        exact (hb ⟨by assumption, by assumption, by assumption⟩).elim
      · skip
        refine wx_sipush (v := (-1000)) dX9_bend_31 (by decide) ?_
        refine wx_iret dX9_bend_34 rfl rfl (Or.inl rfl) ?_
        exact hK
theorem s_X9_bend_ok {d : Nat} {K : List Value → zS → Prop} {mm : zM} {n : Nat} (hzn : mm 128 0 = nI n) {r z : Nat} {c : Int32} (hr : r < 7) (hz : z < 16) (k1 : 0 ≤ nI r ∧ nI r ≤ 6) (k2 : 0 ≤ nI z ∧ nI z ≤ nI n - 1) (k3 : -500 ≤ c ∧ c ≤ 500) (hK : K [.int (mm 140 (16 * r + z))] (zG (zU mm 140 (16 * r + z) c))) : wm (d + 2) mX9_bend [.ref 128, .int (nI r), .int (nI z), .int c] (zG mm) K := by
  refine wm_of2 (L0 := [some (.ref 128), some (.int (nI r)), some (.int (nI z)), some (.int c), none]) zCm_X9_bend (Or.inl rfl) (Nat.le_of_ble_eq_true rfl) rfl ?_
  refine wx_iload_n (i := 1) dX9_bend_0 rfl rfl ?_
  refine wx_iconst (v := 0) dX9_bend_1 (by decide) ?_
  refine wx_bipush (v := 6) dX9_bend_2 (by decide) ?_
  refine wx_S3 dX9_bend_4 zPS_X9_in zLk_X9_116 (Nat.le_of_ble_eq_true rfl) (Or.inr rfl) ?_
  refine s_X9_in _ _ _ ?_
  refine wx_r1 ?_
  refine wx_eqb (tgt := 31) dX9_bend_7 (by decide) (fun h7 => ?_) (fun h7 => ?_)
  · contradiction --end
  · skip
    refine wx_aload_n (i := 0) dX9_bend_10 rfl rfl ?_
    refine wx_iload_n (i := 2) dX9_bend_11 rfl rfl ?_
    refine wx_V1 dX9_bend_12 zPV_X9_isZone zLk_X9_130 rfl (Nat.le_of_ble_eq_true rfl) (Nat.le_of_ble_eq_true rfl) (Or.inr rfl) ?_
    refine s_X9_isZone _ ?_
    rw [hzn]
    refine wx_r1 ?_
    refine wx_eqb (tgt := 31) dX9_bend_15 (by decide) (fun h15 => ?_) (fun h15 => ?_)
    · contradiction --end
    · skip
      refine wx_iload_n (i := 3) dX9_bend_18 rfl rfl ?_
      refine wx_sipush (v := (-500)) dX9_bend_19 (by decide) ?_
      refine wx_sipush (v := 500) dX9_bend_22 (by decide) ?_
      refine wx_S3 dX9_bend_25 zPS_X9_in zLk_X9_116 (Nat.le_of_ble_eq_true rfl) (Or.inr rfl) ?_
      refine s_X9_in _ _ _ ?_
      refine wx_r1 ?_
      refine wx_neb (tgt := 35) dX9_bend_28 (by decide) (fun h28 => ?_) (fun h28 => ?_)
      · skip
        refine wx_aload_n (i := 0) dX9_bend_35 rfl rfl ?_
        refine wx_getRG (k := 128) (t := 140) dX9_bend_36 zF_X9_62 zKo_128 rfl (Nat.le_of_ble_eq_true rfl) zRf_128_19 ?_
        refine wx_bipush (v := 16) dX9_bend_39 (by decide) ?_
        refine wx_iload_n (i := 1) dX9_bend_41 rfl rfl ?_
        refine wx_imul dX9_bend_42 ?_
        refine wx_iload_n (i := 2) dX9_bend_43 rfl rfl ?_
        refine wx_iadd dX9_bend_44 ?_
        refine wx_ialdG (k := 140) (j := 16 * r + z) dX9_bend_45 zK_140 (Nat.le_of_ble_eq_true rfl) ?_ ?_ ?_
        · (simp only [zl_16, zi_nI, zi_mul, zi_add] <;> first | done | exact congrArg zi (by omega))
        · exact ⟨by omega, by decide⟩
        refine wx_istore dX9_bend_46 (Nat.le_of_ble_eq_true rfl) rfl ?_
        refine wx_aload_n (i := 0) dX9_bend_48 rfl rfl ?_
        refine wx_getRG (k := 128) (t := 140) dX9_bend_49 zF_X9_62 zKo_128 rfl (Nat.le_of_ble_eq_true rfl) zRf_128_19 ?_
        refine wx_bipush (v := 16) dX9_bend_52 (by decide) ?_
        refine wx_iload_n (i := 1) dX9_bend_54 rfl rfl ?_
        refine wx_imul dX9_bend_55 ?_
        refine wx_iload_n (i := 2) dX9_bend_56 rfl rfl ?_
        refine wx_iadd dX9_bend_57 ?_
        refine wx_iload_n (i := 3) dX9_bend_58 rfl rfl ?_
        refine wx_iastG (k := 140) (j := 16 * r + z) dX9_bend_59 zK_140 (Nat.le_of_ble_eq_true rfl) ?_ ?_ ?_
        · (simp only [zl_16, zi_nI, zi_mul, zi_add] <;> first | done | exact congrArg zi (by omega))
        · exact ⟨by omega, by decide⟩
        refine wx_iload dX9_bend_60 rfl ?_
        refine wx_iret dX9_bend_62 rfl rfl (Or.inl rfl) ?_
        exact hK
      · contradiction --end
