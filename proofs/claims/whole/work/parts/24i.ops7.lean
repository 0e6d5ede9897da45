/-! calls: plan, right, work -/
theorem plan_eq {n k t : Nat} {mm : zM} (hB : zBR n k mm mm) (ht : t < 3) (hn : n ≤ 16) : zPC n t mm = zCo n (mm 129) (zPm mm t) (mm 128 13) (n + 2) 0 ∧ ∀ z, z < n → zPM n t mm z = zPmi n (mm 129) (zPm mm t) (mm 128 13) z := by
  have hh : ∀ i, i < n → mm 18 i = mm 129 i := fun i hi => hB.1 i (by omega)
  have hp : ∀ e, e < 5 → mm (20 + 1 + t) e = zPm mm t e := fun e he => hB.2.2.1 t e ht he
  unfold zPC zPM
  rw [hB.2.2.2.1, zCo_cg hh hp (n + 2) (Nat.le_refl _)]
  exact ⟨rfl, fun z hz => zPmi_cg hh hp hz⟩
/-- nothing but the planner's cells, and the reference's tables, has changed -/
theorem zJB_q {n b k : Nat} {mm m1 m3 : zM} (hB : zBR n k mm mm) (hP : zPx n b mm) (hb : b ≤ 1000) (fq : zFq mm m1) (hI1 : zPI n m1) (f3 : ∀ c, ¬ (146 ≤ c ∧ c ≤ 148) → m3 c = m1 c) : zJB n (b + 1) m3 := by
  refine ⟨⟨k, zBR_a (zBR_b hB (fun c j w => by rw [f3 c (by omega), fq c (by omega)])) (fun c j w1 w2 => by rw [f3 c (by omega), fq c (by omega)])⟩, ?_⟩
  exact zPx_fr (zPI_Px hP hb fq hI1) (Nat.le_succ b) (fun c j w1 w2 => by rw [f3 c (by omega)])
theorem zFq_zn {sc : Nat → Int32} {ln n b : Nat} {mm m1 m3 : zM} (hI : zIn sc ln n b mm) (hb : b < 1000) (fq : zFq mm m1) (hI1 : zPI n m1) (f3 : ∀ c, ¬ (146 ≤ c ∧ c ≤ 148) → m3 c = m1 c) : zInv sc ln (b + 1) m3 := by
  obtain ⟨⟨k, hB⟩, hP⟩ := hI.2.2.2.1
  exact zIn_B hI hb (fun c j w => by rw [f3 c (by omega), fq c (by omega)]) (zJB_q hB hP (by omega) fq hI1 f3)
theorem op_plan_all {d : Nat} {K : List Value → zS → Prop} {mm : zM} {sc : Nat → Int32} {ln b n : Nat} {a0 : Int32} (hI : zIn sc ln n b mm) (hb : b < 1000) (hK : ∀ (x : Int32) (m1 : zM), zAgr sc ln (b + 1) (d + 80) mX9_plan [.ref 128, .int a0, .int (-1)] (.int x) m1 → K [.int x] (zG m1))  : wm (d + 80) mX8_plan [.ref 0, .int a0, .int (-1)] (zG mm) K := by
  obtain ⟨hn4, hn16, hb1000, hz0, hz1⟩ := hI.1
  obtain ⟨⟨k, hB⟩, hP⟩ := hI.2.2.2.1
  have hPI := zPx_PI hP ⟨hn4, hn16⟩ hb1000
  refine wm_of2 (L0 := [some (.ref 0), some (.int a0), some (.int (-1))]) zCm_X8_plan (Or.inl rfl) (Nat.le_of_ble_eq_true rfl) rfl ?_
  refine wx_iload_n (i := 1) dX8_plan_0 rfl rfl ?_
  refine wx_S1 dX8_plan_1 zPS_X8_isTool zLk_X8_146 (Nat.le_of_ble_eq_true rfl) (Or.inr rfl) ?_
  refine s_X8_isTool _ ?_
  refine wx_r1 ?_
  refine wx_eqb (tgt := 20) dX8_plan_4 (by decide) (fun h4 => ?_) (fun h4 => ?_)
  · have hbad := h4 --A
    refine wx_iconst (v := (-1)) dX8_plan_20 (by decide) ?_
    refine wx_iret dX8_plan_21 rfl rfl (Or.inl rfl) ?_
    exact hK _ _ (fun K' h => s_X9_plan_bad (fun w => hbad w.1) (h mm (zIn_0 hI hb)))
  · obtain ⟨t, e1, e1l⟩ := zNat (m := 2) (by omega) h4
    subst e1
    obtain ⟨pe1, pe2⟩ := plan_eq hB (show t < 3 by omega) hn16
    refine wx_iload_n (i := 2) dX8_plan_7 rfl rfl ?_
    refine wx_iconst (v := (-1)) dX8_plan_8 (by decide) ?_
    refine wx_icmp_eq (tgt := 22) dX8_plan_9 (by decide) (fun h9 => ?_) (fun h9 => ?_)
    · skip --1ALL
      refine wx_aload_n (i := 0) dX8_plan_22 rfl rfl ?_
      refine wx_getRG (k := 0) (t := 88) dX8_plan_23 zF_X8_44 zKo_0 rfl (Nat.le_of_ble_eq_true rfl) zRf_0_4 ?_
      refine wx_iload_n (i := 1) dX8_plan_26 rfl rfl ?_
      refine wx_V1 dX8_plan_27 zPV_X4_hasPlan zLk_X8_173 rfl (Nat.le_of_ble_eq_true rfl) (Nat.le_of_ble_eq_true rfl) (Or.inr rfl) ?_
      refine s_X4_hasPlan hPI (show t < 3 by omega) (fun m1 f1 i1 v1 => ?_)
      refine wx_r1 ?_
      refine wx_neb (tgt := 36) dX8_plan_30 (by decide) (fun h30 => ?_) (fun h30 => ?_)
      · rw [(zPC_fq f1 (show t < 3 by omega)).1] at h30 --2Y
        refine wx_iload_n (i := 2) dX8_plan_36 rfl rfl ?_
        refine wx_iconst (v := (-1)) dX8_plan_37 (by decide) ?_
        refine wx_icmp_ne (tgt := 52) dX8_plan_38 (by decide) (fun h38 => ?_) (fun h38 => ?_)
        · exact absurd rfl h38 --end
        · skip
          refine wx_aload_n (i := 0) dX8_plan_41 rfl rfl ?_
          refine wx_getRG (k := 0) (t := 88) dX8_plan_42 zF_X8_44 zKo_0 rfl (Nat.le_of_ble_eq_true rfl) zRf_0_4 ?_
          refine wx_iload_n (i := 1) dX8_plan_45 rfl rfl ?_
          refine wx_V1 dX8_plan_46 zPV_X4_together zLk_X8_176 rfl (Nat.le_of_ble_eq_true rfl) (Nat.le_of_ble_eq_true rfl) (Or.inr rfl) ?_
          refine s_X4_together i1 (show t < 3 by omega) (fun m2 f2 i2 v2 => ?_)
          refine wx_r1 ?_
          refine wx_goto (tgt := 61) dX8_plan_49 (by decide) ?_
          refine wx_iret dX8_plan_61 rfl rfl (Or.inl rfl) ?_
          have f2 := zFq_trans f1 f2
          rw [(zPC_fq f2 (show t < 3 by omega)).1]
          exact hK _ _ (fun K' h => s_X9_plan_all (n := n) (h := mm 129) (p := zPm mm t) (r := mm 128 13) (by rw [f2 128 (by omega)]; exact hz1) ⟨hn4, hn16⟩ (show t < 3 by omega) (f2 129 (by omega)) (by unfold zPm; rw [f2 135 (by omega)]) (by rw [f2 128 (by omega)]) h4 ⟨by decide, by rw [f2 128 (by omega), hz1, zm_1, zl_1, zi_nI, zi_sub, zi_le (by omega) (by omega)]; omega⟩ (fun m3 g => by rw [← pe1, if_pos h30]; exact h m3 (zFq_zn hI hb f2 i2 (fun c w => g c (by omega) (by omega)))))
      · rw [(zPC_fq f1 (show t < 3 by omega)).1] at h30 --2N
        refine wx_bipush (v := (-4)) dX8_plan_33 (by decide) ?_
        refine wx_iret dX8_plan_35 rfl rfl (Or.inl rfl) ?_
        exact hK _ _ (fun K' h => s_X9_plan_all (n := n) (h := mm 129) (p := zPm mm t) (r := mm 128 13) (by rw [f1 128 (by omega)]; exact hz1) ⟨hn4, hn16⟩ (show t < 3 by omega) (f1 129 (by omega)) (by unfold zPm; rw [f1 135 (by omega)]) (by rw [f1 128 (by omega)]) h4 ⟨by decide, by rw [f1 128 (by omega), hz1, zm_1, zl_1, zi_nI, zi_sub, zi_le (by omega) (by omega)]; omega⟩ (fun m3 g => by rw [← pe1, if_neg h30]; exact h m3 (zFq_zn hI hb f1 i1 (fun c w => g c (by omega) (by omega)))))
    · exact absurd rfl h9 --end
theorem op_plan_one {d : Nat} {K : List Value → zS → Prop} {mm : zM} {sc : Nat → Int32} {ln b n : Nat} {a0 a1 : Int32} (h9 : ¬ a1 = -1) (hI : zIn sc ln n b mm) (hb : b < 1000) (hK : ∀ (x : Int32) (m1 : zM), zAgr sc ln (b + 1) (d + 80) mX9_plan [.ref 128, .int a0, .int a1] (.int x) m1 → K [.int x] (zG m1))  : wm (d + 80) mX8_plan [.ref 0, .int a0, .int a1] (zG mm) K := by
  obtain ⟨hn4, hn16, hb1000, hz0, hz1⟩ := hI.1
  obtain ⟨⟨k, hB⟩, hP⟩ := hI.2.2.2.1
  have hPI := zPx_PI hP ⟨hn4, hn16⟩ hb1000
  refine wm_of2 (L0 := [some (.ref 0), some (.int a0), some (.int a1)]) zCm_X8_plan (Or.inl rfl) (Nat.le_of_ble_eq_true rfl) rfl ?_
  refine wx_iload_n (i := 1) dX8_plan_0 rfl rfl ?_
  refine wx_S1 dX8_plan_1 zPS_X8_isTool zLk_X8_146 (Nat.le_of_ble_eq_true rfl) (Or.inr rfl) ?_
  refine s_X8_isTool _ ?_
  refine wx_r1 ?_
  refine wx_eqb (tgt := 20) dX8_plan_4 (by decide) (fun h4 => ?_) (fun h4 => ?_)
  · have hbad := h4 --A
    refine wx_iconst (v := (-1)) dX8_plan_20 (by decide) ?_
    refine wx_iret dX8_plan_21 rfl rfl (Or.inl rfl) ?_
    exact hK _ _ (fun K' h => s_X9_plan_bad (fun w => hbad w.1) (h mm (zIn_0 hI hb)))
  · obtain ⟨t, e1, e1l⟩ := zNat (m := 2) (by omega) h4
    subst e1
    obtain ⟨pe1, pe2⟩ := plan_eq hB (show t < 3 by omega) hn16
    refine wx_iload_n (i := 2) dX8_plan_7 rfl rfl ?_
    refine wx_iconst (v := (-1)) dX8_plan_8 (by decide) ?_
    refine wx_icmp_eq (tgt := 22) dX8_plan_9 (by decide) (fun h9b => ?_) (fun h9b => ?_)
    · exact absurd h9b h9 --end
    · skip
      refine wx_aload_n (i := 0) dX8_plan_12 rfl rfl ?_
      refine wx_iload_n (i := 2) dX8_plan_13 rfl rfl ?_
      refine wx_V1 dX8_plan_14 zPV_X8_isZone zLk_X8_95 rfl (Nat.le_of_ble_eq_true rfl) (Nat.le_of_ble_eq_true rfl) (Or.inr rfl) ?_
      refine s_X8_isZone _ ?_
      rw [hz0]
      refine wx_r1 ?_
      refine wx_neb (tgt := 22) dX8_plan_17 (by decide) (fun h17 => ?_) (fun h17 => ?_)
      · obtain ⟨z, e2, e2l⟩ := zNat (a := a1) (m := (n : Int) - 1) (by omega) (by have := h17; rw [zl_1, zi_nI, zi_sub] at this; exact this)
        subst e2
        have h14 := h17 --1ONE
        refine wx_aload_n (i := 0) dX8_plan_22 rfl rfl ?_
        refine wx_getRG (k := 0) (t := 88) dX8_plan_23 zF_X8_44 zKo_0 rfl (Nat.le_of_ble_eq_true rfl) zRf_0_4 ?_
        refine wx_iload_n (i := 1) dX8_plan_26 rfl rfl ?_
        refine wx_V1 dX8_plan_27 zPV_X4_hasPlan zLk_X8_173 rfl (Nat.le_of_ble_eq_true rfl) (Nat.le_of_ble_eq_true rfl) (Or.inr rfl) ?_
        refine s_X4_hasPlan hPI (show t < 3 by omega) (fun m1 f1 i1 v1 => ?_)
        refine wx_r1 ?_
        refine wx_neb (tgt := 36) dX8_plan_30 (by decide) (fun h30 => ?_) (fun h30 => ?_)
        · rw [(zPC_fq f1 (show t < 3 by omega)).1] at h30 --2Y
          refine wx_iload_n (i := 2) dX8_plan_36 rfl rfl ?_
          refine wx_iconst (v := (-1)) dX8_plan_37 (by decide) ?_
          refine wx_icmp_ne (tgt := 52) dX8_plan_38 (by decide) (fun h38 => ?_) (fun h38 => ?_)
          · skip
            refine wx_aload_n (i := 0) dX8_plan_52 rfl rfl ?_
            refine wx_getRG (k := 0) (t := 88) dX8_plan_53 zF_X8_44 zKo_0 rfl (Nat.le_of_ble_eq_true rfl) zRf_0_4 ?_
            refine wx_iload_n (i := 1) dX8_plan_56 rfl rfl ?_
            refine wx_iload_n (i := 2) dX8_plan_57 rfl rfl ?_
            refine wx_V2 dX8_plan_58 zPV_X4_minutesAt zLk_X8_179 rfl (Nat.le_of_ble_eq_true rfl) (Nat.le_of_ble_eq_true rfl) (Or.inr rfl) ?_
            refine s_X4_minutesAt i1 (show t < 3 by omega) (show z < n by omega) (by rw [(zPC_fq f1 (show t < 3 by omega)).1]; exact h30) (fun m2 f2 i2 v2 => ?_)
            refine wx_r1 ?_
            refine wx_iret dX8_plan_61 rfl rfl (Or.inl rfl) ?_
            have f2 := zFq_trans f1 f2
            rw [(zPC_fq f2 (show t < 3 by omega)).2, pe2 z (by omega)]
            exact hK _ _ (fun K' h => s_X9_plan_one (n := n) (h := mm 129) (p := zPm mm t) (r := mm 128 13) (by rw [f2 128 (by omega)]; exact hz1) ⟨hn4, hn16⟩ (show t < 3 by omega) (f2 129 (by omega)) (by unfold zPm; rw [f2 135 (by omega)]) (by rw [f2 128 (by omega)]) (z := z) (show z < n by omega) h4 ⟨by rw [zm_1, zi_nI, zi_le (by omega) (by omega)]; omega, by rw [f2 128 (by omega), hz1]; exact h14.2⟩ (fun m3 g => by rw [← pe1, if_pos h30]; exact h m3 (zFq_zn hI hb f2 i2 (fun c w => g c (by omega) (by omega)))))
          · exact absurd h38 h9 --end
        · rw [(zPC_fq f1 (show t < 3 by omega)).1] at h30 --2N
          refine wx_bipush (v := (-4)) dX8_plan_33 (by decide) ?_
          refine wx_iret dX8_plan_35 rfl rfl (Or.inl rfl) ?_
          exact hK _ _ (fun K' h => s_X9_plan_one (n := n) (h := mm 129) (p := zPm mm t) (r := mm 128 13) (by rw [f1 128 (by omega)]; exact hz1) ⟨hn4, hn16⟩ (show t < 3 by omega) (f1 129 (by omega)) (by unfold zPm; rw [f1 135 (by omega)]) (by rw [f1 128 (by omega)]) (z := z) (show z < n by omega) h4 ⟨by rw [zm_1, zi_nI, zi_le (by omega) (by omega)]; omega, by rw [f1 128 (by omega), hz1]; exact h14.2⟩ (fun m3 g => by rw [← pe1, if_neg h30]; exact h m3 (zFq_zn hI hb f1 i1 (fun c w => g c (by omega) (by omega)))))
      · have hbad := h17 --B
        refine wx_iconst (v := (-1)) dX8_plan_20 (by decide) ?_
        refine wx_iret dX8_plan_21 rfl rfl (Or.inl rfl) ?_
        exact hK _ _ (fun K' h => s_X9_plan_bad (fun w => hbad (by
          have w2 := w.2
          have w3 : a1.toInt ≠ -1 := fun q => h9 (by rw [← zi_of a1, q]; rfl)
          rw [hz1, ← zi_of a1, zm_1, zi_le (by omega) (zrng a1)] at w2
          refine ⟨?_, by have := w.2.2; rw [hz1] at this; exact this⟩
          rw [← zi_of a1, zl_0, zi_le (by omega) (zrng a1)]
          omega)) (h mm (zIn_0 hI hb)))
theorem op_plan {d : Nat} {K : List Value → zS → Prop} {mm : zM} {sc : Nat → Int32} {ln b n : Nat} {a0 a1 : Int32} (hI : zIn sc ln n b mm) (hb : b < 1000) (hK : ∀ (x : Int32) (m1 : zM), zAgr sc ln (b + 1) (d + 80) mX9_plan [.ref 128, .int a0, .int a1] (.int x) m1 → K [.int x] (zG m1)) : wm (d + 80) mX8_plan [.ref 0, .int a0, .int a1] (zG mm) K := by
  by_cases h : a1 = -1
  · subst h
    exact op_plan_all hI hb hK
  · exact op_plan_one h hI hb hK
theorem op_right {d : Nat} {K : List Value → zS → Prop} {mm : zM} {sc : Nat → Int32} {ln b n : Nat} {a0 : Int32} (hI : zIn sc ln n b mm) (hb : b < 1000) (hK : ∀ (x : Int32) (m1 : zM), zAgr sc ln (b + 1) (d + 80) mX9_right [.ref 128, .int a0] (.int x) m1 → K [.int x] (zG m1))  : wm (d + 80) mX8_right [.ref 0, .int a0] (zG mm) K := by
  obtain ⟨hn4, hn16, hb1000, hz0, hz1⟩ := hI.1
  obtain ⟨⟨k, hB⟩, hP⟩ := hI.2.2.2.1
  have hPI := zPx_PI hP ⟨hn4, hn16⟩ hb1000
  refine wm_of2 (L0 := [some (.ref 0), some (.int a0)]) zCm_X8_right (Or.inl rfl) (Nat.le_of_ble_eq_true rfl) rfl ?_
  refine wx_iload_n (i := 1) dX8_right_0 rfl rfl ?_
  refine wx_S1 dX8_right_1 zPS_X8_isTool zLk_X8_146 (Nat.le_of_ble_eq_true rfl) (Or.inr rfl) ?_
  refine s_X8_isTool _ ?_
  refine wx_r1 ?_
  refine wx_eqb (tgt := 18) dX8_right_4 (by decide) (fun h4 => ?_) (fun h4 => ?_)
  · have hbad := h4 --A
    refine wx_iconst (v := (-1)) dX8_right_18 (by decide) ?_
    refine wx_iret dX8_right_19 rfl rfl (Or.inl rfl) ?_
    exact hK _ _ (fun K' h => s_X9_right_bad (fun w => hbad w) (h mm (zIn_0 hI hb)))
  · obtain ⟨t, e1, e1l⟩ := zNat (m := 2) (by omega) h4
    subst e1
    obtain ⟨pe1, pe2⟩ := plan_eq hB (show t < 3 by omega) hn16 --OK
    refine wx_aload_n (i := 0) dX8_right_7 rfl rfl ?_
    refine wx_getRG (k := 0) (t := 88) dX8_right_8 zF_X8_44 zKo_0 rfl (Nat.le_of_ble_eq_true rfl) zRf_0_4 ?_
    refine wx_iload_n (i := 1) dX8_right_11 rfl rfl ?_
    refine wx_V1 dX8_right_12 zPV_X4_rightZones zLk_X8_182 rfl (Nat.le_of_ble_eq_true rfl) (Nat.le_of_ble_eq_true rfl) (Or.inr rfl) ?_
    refine s_X4_rightZones hPI (show t < 3 by omega) (fun m1 f1 i1 v1 => ?_)
    refine wx_r1 ?_
    refine wx_goto (tgt := 19) dX8_right_15 (by decide) ?_
    refine wx_iret dX8_right_19 rfl rfl (Or.inl rfl) ?_
    rw [(zPC_fq f1 (show t < 3 by omega)).1, pe1, zNm_eq hn16]
    exact hK _ _ (fun K' h => s_X9_right_ok (n := n) (h := mm 129) (p := zPm mm t) (r := mm 128 13) (by rw [f1 128 (by omega)]; exact hz1) ⟨hn4, hn16⟩ (show t < 3 by omega) (f1 129 (by omega)) (by unfold zPm; rw [f1 135 (by omega)]) (by rw [f1 128 (by omega)]) h4 (fun m3 g => h m3 (zFq_zn hI hb f1 i1 (fun c w => g c (by omega)))))
