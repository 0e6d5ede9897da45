/-! the least step of the class -/
theorem lp_least {d : Nat} {K : List Value → zS → Prop} {mm : zM} {g : Nat → Nat → Int} {s : Nat → Int} {L : Int} {w : Nat} (hO : zOk g s L) (hM : zCR g s L mm) (hw : w < 15) (hK : K [.int (zi (zDs g s L w 3).2.2)] (zG mm)) : ∀ (c i : Nat) (y z : Option Value), i + c = 3 → wx (d + 3) mX3_leastStep 9 [some (.ref 2), some (.int (nI w)), some (.int (zi (zDs g s L w i).2.1)), some (.int (zi (zDs g s L w i).2.2)), some (.int (nI i)), y, z] [] (zG mm) K := by
  intro c
  induction c with
  | zero =>
    intro i y z hi
    have hin : i = 3 := by omega
    subst hin
    refine wx_iload dX3_leastStep_9 rfl ?_
    refine wx_iconst (v := 3) dX3_leastStep_11 (by decide) ?_
    refine wx_icmp_ge (tgt := 93) dX3_leastStep_12 (by decide) (fun h12 => ?_) (fun h12 => ?_)
    · skip
      refine wx_iload_n (i := 3) dX3_leastStep_93 rfl rfl ?_
      refine wx_iret dX3_leastStep_94 rfl rfl (Or.inl rfl) ?_
      exact hK
    · exact absurd (show nI 3 ≤ nI 3 from nI_le (by omega) (by omega)) h12 --end
  | succ c ih =>
    intro i y z hi
    have hL := hO.2.2
    have hb := zDs_bd hO w i
    have hgb := hO.1 i w
    have hsb := hO.2.1 i
    have hhb := zHo_bd g s L w (g i w - s i - L) 3
    have hg := hM.1 i w (by omega) hw
    refine wx_iload dX3_leastStep_9 rfl ?_
    refine wx_iconst (v := 3) dX3_leastStep_11 (by decide) ?_
    refine wx_icmp_ge (tgt := 93) dX3_leastStep_12 (by decide) (fun h12 => ?_) (fun h12 => ?_)
    · exact absurd (show nI 3 ≤ nI i from h12) (nI_ge (by omega) (by omega)) --end
    · skip
      refine wx_aload_n (i := 0) dX3_leastStep_15 rfl rfl ?_
      refine wx_getRG (k := 2) (t := 3) dX3_leastStep_16 zF_X3_11 zKo_2 rfl (Nat.le_of_ble_eq_true rfl) zRf_2_0 ?_
      refine wx_iload dX3_leastStep_19 rfl ?_
      refine wx_aaldG (k := 3) (j := i) dX3_leastStep_21 zK_3 (Nat.le_of_ble_eq_true rfl) rfl ?_ ?_
      · exact ⟨by omega, by decide⟩
      refine wx_iload_n (i := 1) dX3_leastStep_22 rfl rfl ?_
      refine wx_ialdG dX3_leastStep_23 (zKin_3 _ (by omega)) (zKlt_3 _ (by omega)) rfl ?_ ?_
      · exact ⟨hw, by decide⟩
      refine wx_sipush (v := 5000) dX3_leastStep_24 (by decide) ?_
      refine wx_icmp_eq (tgt := 87) dX3_leastStep_27 (by decide) (fun h27 => ?_) (fun h27 => ?_)
      · rw [hg, zl_5000, zi_eq (by omega) (by omega)] at h27
        have hd := zDs_g (s := s) (L := L) h27
        refine wx_inc (c := 1) dX3_leastStep_87 rfl (by decide) (Nat.le_of_ble_eq_true rfl) rfl ?_
        refine wx_goto (tgt := 9) dX3_leastStep_90 (by decide) ?_
        rw [nI_1]
        have e := ih (i + 1) y z (by omega)
        rw [hd] at e
        exact e
      · rw [hg, zl_5000, zi_eq (by omega) (by omega)] at h27
        
        refine wx_aload_n (i := 0) dX3_leastStep_30 rfl rfl ?_
        refine wx_getRG (k := 2) (t := 3) dX3_leastStep_31 zF_X3_11 zKo_2 rfl (Nat.le_of_ble_eq_true rfl) zRf_2_0 ?_
        refine wx_iload dX3_leastStep_34 rfl ?_
        refine wx_aaldG (k := 3) (j := i) dX3_leastStep_36 zK_3 (Nat.le_of_ble_eq_true rfl) rfl ?_ ?_
        · exact ⟨by omega, by decide⟩
        refine wx_iload_n (i := 1) dX3_leastStep_37 rfl rfl ?_
        refine wx_ialdG dX3_leastStep_38 (zKin_3 _ (by omega)) (zKlt_3 _ (by omega)) rfl ?_ ?_
        · exact ⟨hw, by decide⟩
        refine wx_aload_n (i := 0) dX3_leastStep_39 rfl rfl ?_
        refine wx_getRG (k := 2) (t := 7) dX3_leastStep_40 zF_X3_16 zKo_2 rfl (Nat.le_of_ble_eq_true rfl) zRf_2_1 ?_
        refine wx_iload dX3_leastStep_43 rfl ?_
        refine wx_ialdG (k := 7) dX3_leastStep_45 zK_7 (Nat.le_of_ble_eq_true rfl) rfl ?_ ?_
        · exact ⟨by omega, by decide⟩
        refine wx_isub dX3_leastStep_46 ?_
        refine wx_aload_n (i := 0) dX3_leastStep_47 rfl rfl ?_
        refine wx_getIG (k := 2) dX3_leastStep_48 zF_X3_35 zKo_2 rfl (Nat.le_of_ble_eq_true rfl) ?_
        refine wx_isub dX3_leastStep_51 ?_
        refine wx_istore dX3_leastStep_52 (Nat.le_of_ble_eq_true rfl) rfl ?_
        refine wx_aload_n (i := 0) dX3_leastStep_54 rfl rfl ?_
        refine wx_iload dX3_leastStep_55 rfl ?_
        refine wx_iload_n (i := 1) dX3_leastStep_57 rfl rfl ?_
        refine wx_V2 dX3_leastStep_58 zPV_X3_servedBy zLk_X3_104 rfl (Nat.le_of_ble_eq_true rfl) (Nat.le_of_ble_eq_true rfl) (Or.inr rfl) ?_
        rw [hg, hM.2.1 i (by omega), hM.2.2, zi_sub, zi_sub]
        refine s_X3_servedBy hO hM hw (by omega) ?_
        refine wx_r1 ?_
        refine wx_istore dX3_leastStep_61 (Nat.le_of_ble_eq_true rfl) rfl ?_
        refine wx_iload dX3_leastStep_63 rfl ?_
        refine wx_iload_n (i := 2) dX3_leastStep_65 rfl rfl ?_
        refine wx_icmp_gt (tgt := 81) dX3_leastStep_66 (by decide) (fun h66 => ?_) (fun h66 => ?_)
        · rw [zi_lt (by omega) (by omega)] at h66
          have hd := zDs_y h27 (Or.inl h66)
          refine wx_iload dX3_leastStep_81 rfl ?_
          refine wx_istore_n (i := 2) dX3_leastStep_83 rfl (Nat.le_of_ble_eq_true rfl) rfl ?_
          refine wx_iload dX3_leastStep_84 rfl ?_
          refine wx_istore_n (i := 3) dX3_leastStep_86 rfl (Nat.le_of_ble_eq_true rfl) rfl ?_
          refine wx_inc (c := 1) dX3_leastStep_87 rfl (by decide) (Nat.le_of_ble_eq_true rfl) rfl ?_
          refine wx_goto (tgt := 9) dX3_leastStep_90 (by decide) ?_
          rw [nI_1]
          have e := ih (i + 1) (some (.int (zi (g i w - s i - L)))) (some (.int (zi (zHo g s L w (g i w - s i - L) 3)))) (by omega)
          rw [hd] at e
          exact e
        · rw [zi_lt (by omega) (by omega)] at h66
          
          refine wx_iload dX3_leastStep_69 rfl ?_
          refine wx_iload_n (i := 2) dX3_leastStep_71 rfl rfl ?_
          refine wx_icmp_ne (tgt := 87) dX3_leastStep_72 (by decide) (fun h72 => ?_) (fun h72 => ?_)
          · rw [zi_eq (by omega) (by omega)] at h72
            have hd := zDs_n h27 (fun u => u.elim (fun u => h66 u) (fun u => h72 u.1))
            refine wx_inc (c := 1) dX3_leastStep_87 rfl (by decide) (Nat.le_of_ble_eq_true rfl) rfl ?_
            refine wx_goto (tgt := 9) dX3_leastStep_90 (by decide) ?_
            rw [nI_1]
            have e := ih (i + 1) (some (.int (zi (g i w - s i - L)))) (some (.int (zi (zHo g s L w (g i w - s i - L) 3)))) (by omega)
            rw [hd] at e
            exact e
          · rw [zi_eq (by omega) (by omega)] at h72
            
            refine wx_iload dX3_leastStep_75 rfl ?_
            refine wx_iload_n (i := 3) dX3_leastStep_77 rfl rfl ?_
            refine wx_icmp_ge (tgt := 87) dX3_leastStep_78 (by decide) (fun h78 => ?_) (fun h78 => ?_)
            · rw [zi_le (by omega) (by omega)] at h78
              have hd := zDs_n h27 (fun u => u.elim (fun u => h66 u) (fun u => absurd u.2 (by omega)))
              refine wx_inc (c := 1) dX3_leastStep_87 rfl (by decide) (Nat.le_of_ble_eq_true rfl) rfl ?_
              refine wx_goto (tgt := 9) dX3_leastStep_90 (by decide) ?_
              rw [nI_1]
              have e := ih (i + 1) (some (.int (zi (g i w - s i - L)))) (some (.int (zi (zHo g s L w (g i w - s i - L) 3)))) (by omega)
              rw [hd] at e
              exact e
            · rw [zi_le (by omega) (by omega)] at h78
              have hd := zDs_y h27 (Or.inr ⟨h72, by omega⟩)
              refine wx_iload dX3_leastStep_81 rfl ?_
              refine wx_istore_n (i := 2) dX3_leastStep_83 rfl (Nat.le_of_ble_eq_true rfl) rfl ?_
              refine wx_iload dX3_leastStep_84 rfl ?_
              refine wx_istore_n (i := 3) dX3_leastStep_86 rfl (Nat.le_of_ble_eq_true rfl) rfl ?_
              refine wx_inc (c := 1) dX3_leastStep_87 rfl (by decide) (Nat.le_of_ble_eq_true rfl) rfl ?_
              refine wx_goto (tgt := 9) dX3_leastStep_90 (by decide) ?_
              rw [nI_1]
              have e := ih (i + 1) (some (.int (zi (g i w - s i - L)))) (some (.int (zi (zHo g s L w (g i w - s i - L) 3)))) (by omega)
              rw [hd] at e
              exact e
theorem s_X3_leastStep {d : Nat} {K : List Value → zS → Prop} {mm : zM} {g : Nat → Nat → Int} {s : Nat → Int} {L : Int} {w : Nat} (hO : zOk g s L) (hM : zCR g s L mm) (hw : w < 15) (hK : K [.int (zi (zDs g s L w 3).2.2)] (zG mm)) : wm (d + 3) mX3_leastStep [.ref 2, .int (nI w)] (zG mm) K := by
  refine wm_of2 (L0 := [some (.ref 2), some (.int (nI w)), none, none, none, none, none]) zCm_X3_leastStep (Or.inl rfl) (Nat.le_of_ble_eq_true rfl) rfl ?_
  refine wx_iconst (v := 0) dX3_leastStep_0 (by decide) ?_
  refine wx_istore_n (i := 2) dX3_leastStep_1 rfl (Nat.le_of_ble_eq_true rfl) rfl ?_
  refine wx_sipush (v := 5000) dX3_leastStep_2 (by decide) ?_
  refine wx_istore_n (i := 3) dX3_leastStep_5 rfl (Nat.le_of_ble_eq_true rfl) rfl ?_
  refine wx_iconst (v := 0) dX3_leastStep_6 (by decide) ?_
  refine wx_istore dX3_leastStep_7 (Nat.le_of_ble_eq_true rfl) rfl ?_
  exact lp_least hO hM hw hK 3 0 _ _ (by omega)
/-- two tests agree at a step, the second shifted so much against the first -/
def zAg (g : Nat → Nat → Int) (L : Int) (t u : Nat) (e : Int) (i : Nat) : Bool := decide (¬ g t i = 5000 ∧ ¬ g u i = 5000 ∧ ((g u i - e - g t i).natAbs : Int) ≤ 2 * L)
/-- the bits of a test of numbers -/
def zBt (p : Nat → Bool) : Nat → Nat
  | 0 => 0
  | i + 1 => zBt p i ||| (if p i then 1 <<< i else 0)
theorem zBt_lt (p : Nat → Bool) : ∀ n, zBt p n < 2 ^ n
  | 0 => by show 0 < 1; decide
  | n + 1 => by
    have h := zBt_lt p n
    refine Nat.or_lt_two_pow (Nat.lt_of_lt_of_le h (Nat.pow_le_pow_right (by decide) (by omega))) ?_
    by_cases q : p n = true
    · rw [if_pos q, Nat.one_shiftLeft]; exact Nat.pow_lt_pow_right (by decide) (by omega)
    · rw [if_neg q]; exact Nat.two_pow_pos _
theorem zBt_test (p : Nat → Bool) (j : Nat) : ∀ n, (zBt p n).testBit j = (decide (j < n) && p j)
  | 0 => by show Nat.testBit 0 j = _; simp
  | n + 1 => by
    show (zBt p n ||| (if p n then 1 <<< n else 0)).testBit j = _
    rw [Nat.testBit_or, zBt_test p j n, Nat.one_shiftLeft]
    by_cases e : j = n
    · subst e
      by_cases q : p j = true
      · rw [if_pos q, Nat.testBit_two_pow_self, q]; simp
      · rw [if_neg q, Nat.zero_testBit]; simp [q]
    · have h1 : (if p n then 2 ^ n else 0).testBit j = false := by
        by_cases q : p n = true
        · rw [if_pos q]; exact Nat.testBit_two_pow_of_ne (fun w => e w.symm)
        · rw [if_neg q]; exact Nat.zero_testBit j
      rw [h1, Bool.or_false]
      congr 1
      exact decide_eq_decide.mpr (by omega)
