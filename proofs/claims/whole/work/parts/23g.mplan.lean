/-! plans of the reference: small methods, the table of costs -/
theorem zDg_pow (s : Nat) : ∀ k, zDg s k = s / 6 ^ k
  | 0 => (Nat.div_one s).symm
  | k + 1 => by
    show zDg s k / 6 = _
    rw [zDg_pow s k, Nat.div_div_eq_div_mul, Nat.pow_succ]
theorem z6_le {k : Nat} (h : k ≤ 3) : 6 ^ k ≤ 216 ∧ 0 < 6 ^ k := ⟨by have := Nat.pow_le_pow_right (show 0 < 6 by omega) h; simpa using this, Nat.pow_pos (by omega)⟩
theorem i32_src (a b c : Int32) : a - b - c = a - c - b := by
  rw [← zi_of a, ← zi_of b, ← zi_of c, zi_sub, zi_sub, zi_sub, zi_sub]
  exact congrArg zi (by omega)
theorem zLl_sub (a x : Int32) (p : Nat → Int32) (s : Nat) : ∀ k, zLl (a - x) p s k = zLl a p s k - x
  | 0 => rfl
  | k + 1 => by
    show zLl (a - x) p s k - _ = zLl a p s k - _ - x
    rw [zLl_sub a x p s k, i32_src]
theorem zNx_eq {s m : Nat} (hs : s < 1296) (hm : m ≤ 5) : s % 216 * 6 + m = zNx s m := by unfold zNx; omega
theorem lp_back {d : Nat} {K : List Value → zS → Prop} {mm : zM} {s b : Nat} (hs : s < 1296) (hb : b ≤ 3) (hK : K [.int (nI (zDg s b % 6))] (zG mm)) : ∀ (c i : Nat) , i + c = b →  wx (d) mX9_back 4 [some (.int (nI s)), some (.int (nI (b + 1))), some (.int (nI (6 ^ i))), some (.int (nI (i + 1)))] [] (zG mm) K := by
  intro c
  induction c with
  | zero =>
    intro i  hi 
    obtain rfl : i = b := by omega
    refine wx_iload_n (i := 3) dX9_back_4 rfl rfl ?_
    refine wx_iload_n (i := 1) dX9_back_5 rfl rfl ?_
    refine wx_icmp_ge (tgt := 20) dX9_back_6 (by decide) (fun h6 => ?_) (fun h6 => ?_)
    · skip
      refine wx_iload_n (i := 0) dX9_back_20 rfl rfl ?_
      refine wx_iload_n (i := 2) dX9_back_21 rfl rfl ?_
      refine wx_idiv dX9_back_22 ?_ ?_
      · exact nI_ne0 (z6_le hb).2 (by have := (z6_le hb).1; omega)
      rw [nI_div (by omega) (by have := z6_le hb; omega)]
      refine wx_bipush (v := 6) dX9_back_23 (by decide) ?_
      refine wx_irem dX9_back_25 ?_ ?_
      · decide
      rw [show (6 : Int32) = nI 6 from rfl, nI_rem (Nat.le_trans (Nat.div_le_self _ _) (by omega)) (by omega), ← zDg_pow]
      refine wx_iret dX9_back_26 rfl rfl (Or.inl rfl) ?_
      exact hK
    · exact absurd (nI_le (Nat.le_refl _) (by omega)) h6 --end
  | succ c ih =>
    intro i  hi 
    refine wx_iload_n (i := 3) dX9_back_4 rfl rfl ?_
    refine wx_iload_n (i := 1) dX9_back_5 rfl rfl ?_
    refine wx_icmp_ge (tgt := 20) dX9_back_6 (by decide) (fun h6 => ?_) (fun h6 => ?_)
    · exact absurd h6 (nI_ge (by omega) (by omega)) --end
    · skip
      refine wx_iload_n (i := 2) dX9_back_9 rfl rfl ?_
      refine wx_bipush (v := 6) dX9_back_10 (by decide) ?_
      refine wx_imul dX9_back_12 ?_
      refine wx_istore_n (i := 2) dX9_back_13 rfl (Nat.le_of_ble_eq_true rfl) rfl ?_
      refine wx_inc (c := 1) dX9_back_14 rfl (by decide) (Nat.le_of_ble_eq_true rfl) rfl ?_
      refine wx_goto (tgt := 4) dX9_back_17 (by decide) ?_
      rw [show (6 : Int32) = nI 6 from rfl, nI_mul, nI_1, ← Nat.pow_succ]
      exact ih (i + 1) (by omega)
theorem s_X9_back {d : Nat} {K : List Value → zS → Prop} {mm : zM} {s b : Nat} (hs : s < 1296) (hb : b ≤ 3) (hK : K [.int (nI (zDg s b % 6))] (zG mm)) : wm (d) mX9_back [.int (nI s), .int (nI (b + 1))] (zG mm) K := by
  refine wm_of2 (L0 := [some (.int (nI s)), some (.int (nI (b + 1))), none, none]) zCm_X9_back (Or.inl rfl) (Nat.le_of_ble_eq_true rfl) rfl ?_
  refine wx_iconst (v := 1) dX9_back_0 (by decide) ?_
  refine wx_istore_n (i := 2) dX9_back_1 rfl (Nat.le_of_ble_eq_true rfl) rfl ?_
  refine wx_iconst (v := 1) dX9_back_2 (by decide) ?_
  refine wx_istore_n (i := 3) dX9_back_3 rfl (Nat.le_of_ble_eq_true rfl) rfl ?_
  exact lp_back hs hb hK b 0 (by omega)
theorem s_X9_next {d : Nat} {K : List Value → zS → Prop} {mm : zM} {s m : Nat} (hs : s < 1296) (hm : m ≤ 5) (hK : K [.int (nI (zNx s m))] (zG mm)) : wm (d) mX9_next [.int (nI s), .int (nI m)] (zG mm) K := by
  refine wm_of2 (L0 := [some (.int (nI s)), some (.int (nI m))]) zCm_X9_next (Or.inl rfl) (Nat.le_of_ble_eq_true rfl) rfl ?_
  refine wx_iload_n (i := 0) dX9_next_0 rfl rfl ?_
  refine wx_sipush (v := 216) dX9_next_1 (by decide) ?_
  refine wx_irem dX9_next_4 ?_ ?_
  · decide
  rw [show (216 : Int32) = nI 216 from rfl, nI_rem (by omega) (by omega)]
  refine wx_bipush (v := 6) dX9_next_5 (by decide) ?_
  refine wx_imul dX9_next_7 ?_
  rw [show (6 : Int32) = nI 6 from rfl, nI_mul]
  refine wx_iload_n (i := 1) dX9_next_8 rfl rfl ?_
  refine wx_iadd dX9_next_9 ?_
  rw [nI_add]
  refine wx_iret dX9_next_10 rfl rfl (Or.inl rfl) ?_
  exact zki hK (congrArg nI (zNx_eq hs hm).symm)
theorem s_X9_most {d : Nat} {K : List Value → zS → Prop} {mm : zM} {n z : Nat} (hzn : mm 128 0 = nI n) (hn : n ≤ 16) (hz : z ≤ 18) (hK : K [.int (nI (zMo n z))] (zG mm)) : wm (d) mX9_most [.ref 128, .int (nI z)] (zG mm) K := by
  refine wm_of2 (L0 := [some (.ref 128), some (.int (nI z))]) zCm_X9_most (Or.inl rfl) (Nat.le_of_ble_eq_true rfl) rfl ?_
  refine wx_iload_n (i := 1) dX9_most_0 rfl rfl ?_
  refine wx_aload_n (i := 0) dX9_most_1 rfl rfl ?_
  refine wx_getIG (k := 128) dX9_most_2 zF_X9_7 zKo_128 rfl (Nat.le_of_ble_eq_true rfl) ?_
  refine wx_icmp_ge (tgt := 12) dX9_most_5 (by decide) (fun h5 => ?_) (fun h5 => ?_)
  · rw [hzn, nI_leI (by omega) (by omega)] at h5
    have h5 : ¬ z < n := by omega
    refine wx_iconst (v := 0) dX9_most_12 (by decide) ?_
    refine wx_iret dX9_most_13 rfl rfl (Or.inl rfl) ?_
    first | exact zki hK (congrArg nI (if_pos h5)) | exact zki hK (congrArg nI (if_neg h5))
  · rw [hzn, nI_leI (by omega) (by omega)] at h5
    have h5 : z < n := by omega
    refine wx_iconst (v := 5) dX9_most_8 (by decide) ?_
    refine wx_goto (tgt := 13) dX9_most_9 (by decide) ?_
    refine wx_iret dX9_most_13 rfl rfl (Or.inl rfl) ?_
    first | exact zki hK (congrArg nI (if_pos h5)) | exact zki hK (congrArg nI (if_neg h5))
theorem lp_mr {d : Nat} {K : List Value → zS → Prop} {mm : zM} {n t z s m : Nat} (hn : n ≤ 16) (ht : t < 3) (hz : z < n + 2) (hs : s < 1296) (hK : ∀ b : Int32, (b = 1 ∧ zRt (mm 129) (zPm mm t) (mm 128 13) z s m) ∨ (b = 0 ∧ ¬ zRt (mm 129) (zPm mm t) (mm 128 13) z s m) → K [.int b] (zG mm)) (hz2 : ¬ z < 2)  : ∀ (c i : Nat) , i + c = 4 →  wx (d + 1) mX9_isRight 35 [some (.ref 128), some (.int (nI t)), some (.int (nI z)), some (.int (nI s)), some (.int (nI m)), some (.int (zi ((z : Int) - 2))), some (.int (zLl (mm 129 (z - 2) - nI m * zPm mm t 0) (zPm mm t) s i)), some (.int (nI (i + 1)))] [] (zG mm) K := by
  intro c
  induction c with
  | zero =>
    intro i  hi 
    obtain rfl : i = 4 := by omega
    refine wx_iload dX9_isRight_35 rfl ?_
    refine wx_iconst (v := 4) dX9_isRight_37 (by decide) ?_
    refine wx_icmp_gt (tgt := 68) dX9_isRight_38 (by decide) (fun h38 => ?_) (fun h38 => ?_)
    · skip
      refine wx_iload dX9_isRight_68 rfl ?_
      refine wx_iconst (v := 0) dX9_isRight_70 (by decide) ?_
      refine wx_aload_n (i := 0) dX9_isRight_71 rfl rfl ?_
      refine wx_getIG (k := 128) dX9_isRight_72 zF_X9_47 zKo_128 rfl (Nat.le_of_ble_eq_true rfl) ?_
      refine wx_S3 dX9_isRight_75 zPS_X9_in zLk_X9_116 (Nat.le_of_ble_eq_true rfl) (Or.inr rfl) ?_
      refine s_X9_in _ _ _ ?_
      refine wx_r1 ?_
      refine wx_iret dX9_isRight_78 rfl znb (Or.inl rfl) ?_
      rw [zLl_sub]
      by_cases q : 0 ≤ zLl (mm 129 (z - 2)) (zPm mm t) s 4 - nI m * zPm mm t 0 ∧ zLl (mm 129 (z - 2)) (zPm mm t) s 4 - nI m * zPm mm t 0 ≤ mm 128 13
      · rw [if_pos q]; exact hK 1 (Or.inl ⟨rfl, Or.inr q⟩)
      · rw [if_neg q]; exact hK 0 (Or.inr ⟨rfl, fun w => w.elim hz2 q⟩)
    · exact absurd (show nI 4 < nI 5 from nI_lt (by omega) (by omega)) h38 --end
  | succ c ih =>
    intro i  hi 
    refine wx_iload dX9_isRight_35 rfl ?_
    refine wx_iconst (v := 4) dX9_isRight_37 (by decide) ?_
    refine wx_icmp_gt (tgt := 68) dX9_isRight_38 (by decide) (fun h38 => ?_) (fun h38 => ?_)
    · exact absurd (show nI 4 < nI (i + 1) from h38) (nI_nlt (by omega) (by omega)) --end
    · skip
      refine wx_iload dX9_isRight_41 rfl ?_
      refine wx_iload_n (i := 3) dX9_isRight_43 rfl rfl ?_
      refine wx_iload dX9_isRight_44 rfl ?_
      refine wx_S2 dX9_isRight_46 zPS_X9_back zLk_X9_179 (Nat.le_of_ble_eq_true rfl) (Or.inr rfl) ?_
      refine s_X9_back hs (show i ≤ 3 by omega) ?_
      refine wx_r1 ?_
      refine wx_aload_n (i := 0) dX9_isRight_49 rfl rfl ?_
      refine wx_iload_n (i := 1) dX9_isRight_50 rfl rfl ?_
      refine wx_iload dX9_isRight_51 rfl ?_
      refine wx_iconst (v := 2) dX9_isRight_53 (by decide) ?_
      refine wx_isub dX9_isRight_54 ?_
      refine wx_V2 dX9_isRight_55 zPV_X9_pullOf zLk_X9_170 rfl (Nat.le_of_ble_eq_true rfl) (Nat.le_of_ble_eq_true rfl) (Or.inr rfl) ?_
      rw [show nI (i + 1) - 2 = zi (((i + 1 : Nat) : Int) - 2) from by rw [zl_2, zi_nI, zi_sub]]
      refine s_X9_pullOf ht (show i + 1 < 5 by omega) ?_
      refine wx_r1 ?_
      refine wx_imul dX9_isRight_58 ?_
      refine wx_isub dX9_isRight_59 ?_
      refine wx_istore dX9_isRight_60 (Nat.le_of_ble_eq_true rfl) rfl ?_
      refine wx_inc (c := 1) dX9_isRight_62 rfl (by decide) (Nat.le_of_ble_eq_true rfl) rfl ?_
      refine wx_goto (tgt := 35) dX9_isRight_65 (by decide) ?_
      rw [nI_1]
      exact ih (i + 1) (by omega)
theorem s_X9_isRight {d : Nat} {K : List Value → zS → Prop} {mm : zM} {n t z s m : Nat} (hn : n ≤ 16) (ht : t < 3) (hz : z < n + 2) (hs : s < 1296) (hK : ∀ b : Int32, (b = 1 ∧ zRt (mm 129) (zPm mm t) (mm 128 13) z s m) ∨ (b = 0 ∧ ¬ zRt (mm 129) (zPm mm t) (mm 128 13) z s m) → K [.int b] (zG mm))  : wm (d + 1) mX9_isRight [.ref 128, .int (nI t), .int (nI z), .int (nI s), .int (nI m)] (zG mm) K := by
  refine wm_of2 (L0 := [some (.ref 128), some (.int (nI t)), some (.int (nI z)), some (.int (nI s)), some (.int (nI m)), none, none, none]) zCm_X9_isRight (Or.inl rfl) (Nat.le_of_ble_eq_true rfl) rfl ?_
  refine wx_iload_n (i := 2) dX9_isRight_0 rfl rfl ?_
  refine wx_iconst (v := 2) dX9_isRight_1 (by decide) ?_
  refine wx_isub dX9_isRight_2 ?_
  rw [zl_2, zi_nI z, zi_sub, show zi (z : Int) = nI z from (zi_nI z).symm]
  refine wx_istore dX9_isRight_3 (Nat.le_of_ble_eq_true rfl) rfl ?_
  refine wx_iload dX9_isRight_5 rfl ?_
  refine wx_if_ge (tgt := 12) dX9_isRight_7 (by decide) (fun h7 => ?_) (fun h7 => ?_)
  · rw [zl_0, zi_le (by omega) (by omega)] at h7
    have hz2 : ¬ z < 2 := by omega
    refine wx_aload_n (i := 0) dX9_isRight_12 rfl rfl ?_
    refine wx_getRG (k := 128) (t := 129) dX9_isRight_13 zF_X9_13 zKo_128 rfl (Nat.le_of_ble_eq_true rfl) zRf_128_1 ?_
    refine wx_iload dX9_isRight_16 rfl ?_
    refine wx_ialdG (k := 129) (j := z - 2) dX9_isRight_18 zK_129 (Nat.le_of_ble_eq_true rfl) ?_ ?_ ?_
    · (rw [zi_nI]; exact congrArg zi (by omega))
    · exact ⟨by omega, by decide⟩
    refine wx_iload dX9_isRight_19 rfl ?_
    refine wx_aload_n (i := 0) dX9_isRight_21 rfl rfl ?_
    refine wx_iload_n (i := 1) dX9_isRight_22 rfl rfl ?_
    refine wx_bipush (v := (-2)) dX9_isRight_23 (by decide) ?_
    refine wx_V2 dX9_isRight_25 zPV_X9_pullOf zLk_X9_170 rfl (Nat.le_of_ble_eq_true rfl) (Nat.le_of_ble_eq_true rfl) (Or.inr rfl) ?_
    refine s_X9_pullOf ht (show 0 < 5 by omega) ?_
    refine wx_r1 ?_
    refine wx_imul dX9_isRight_28 ?_
    refine wx_isub dX9_isRight_29 ?_
    refine wx_istore dX9_isRight_30 (Nat.le_of_ble_eq_true rfl) rfl ?_
    refine wx_iconst (v := 1) dX9_isRight_32 (by decide) ?_
    refine wx_istore dX9_isRight_33 (Nat.le_of_ble_eq_true rfl) rfl ?_
    exact lp_mr hn ht hz hs hK hz2 4 0 (by omega)
  · rw [zl_0, zi_le (by omega) (by omega)] at h7
    have h7 : z < 2 := by omega
    refine wx_iconst (v := 1) dX9_isRight_10 (by decide) ?_
    refine wx_iret dX9_isRight_11 rfl rfl (Or.inl rfl) ?_
    exact hK 1 (Or.inl ⟨rfl, Or.inl h7⟩)
