/-! calls: rings, knives -/
theorem op_bend {d : Nat} {K : List Value → zS → Prop} {mm : zM} {sc : Nat → Int32} {ln b n : Nat} {a0 a1 a2 : Int32} (hI : zIn sc ln n b mm) (hb : b < 1000) (hK : ∀ (x : Int32) (m1 : zM), zAgr sc ln (b + 1) (d + 80) mX9_bend [.ref 128, .int a0, .int a1, .int a2] (.int x) m1 → K [.int x] (zG m1))  : wm (d + 80) mX8_bend [.ref 0, .int a0, .int a1, .int a2] (zG mm) K := by
  obtain ⟨hn4, hn16, hb1000, hz0, hz1⟩ := hI.1
  refine wm_of2 (L0 := [some (.ref 0), some (.int a0), some (.int a1), some (.int a2)]) zCm_X8_bend (Or.inl rfl) (Nat.le_of_ble_eq_true rfl) rfl ?_
  refine wx_iload_n (i := 1) dX8_bend_0 rfl rfl ?_
  refine wx_iconst (v := 0) dX8_bend_1 (by decide) ?_
  refine wx_bipush (v := 6) dX8_bend_2 (by decide) ?_
  refine wx_S3 dX8_bend_4 zPS_X8_within zLk_X8_73 (Nat.le_of_ble_eq_true rfl) (Or.inr rfl) ?_
  refine s_X8_within _ _ _ ?_
  refine wx_r1 ?_
  refine wx_eqb (tgt := 31) dX8_bend_7 (by decide) (fun h7 => ?_) (fun h7 => ?_)
  · have hbad := h7 --A
    refine wx_sipush (v := (-1000)) dX8_bend_31 (by decide) ?_
    refine wx_iret dX8_bend_34 rfl rfl (Or.inl rfl) ?_
    exact hK _ _ (fun K' h => s_X9_bend_bad hz1 (fun w => hbad w.1) (h mm (zIn_0 hI hb)))
  · obtain ⟨r, e1, e1l⟩ := zNat (m := 6) (by omega) h7
    subst e1
    refine wx_aload_n (i := 0) dX8_bend_10 rfl rfl ?_
    refine wx_iload_n (i := 2) dX8_bend_11 rfl rfl ?_
    refine wx_V1 dX8_bend_12 zPV_X8_isZone zLk_X8_95 rfl (Nat.le_of_ble_eq_true rfl) (Nat.le_of_ble_eq_true rfl) (Or.inr rfl) ?_
    refine s_X8_isZone _ ?_
    rw [hz0]
    refine wx_r1 ?_
    refine wx_eqb (tgt := 31) dX8_bend_15 (by decide) (fun h15 => ?_) (fun h15 => ?_)
    · have hbad := h15 --B
      refine wx_sipush (v := (-1000)) dX8_bend_31 (by decide) ?_
      refine wx_iret dX8_bend_34 rfl rfl (Or.inl rfl) ?_
      exact hK _ _ (fun K' h => s_X9_bend_bad hz1 (fun w => hbad w.2.1) (h mm (zIn_0 hI hb)))
    · obtain ⟨z, e2, e2l⟩ := zNat (a := a1) (m := (n : Int) - 1) (by omega) (by have := h15; rw [zl_1, zi_nI, zi_sub] at this; exact this)
      subst e2
      refine wx_iload_n (i := 3) dX8_bend_18 rfl rfl ?_
      refine wx_sipush (v := (-500)) dX8_bend_19 (by decide) ?_
      refine wx_sipush (v := 500) dX8_bend_22 (by decide) ?_
      refine wx_S3 dX8_bend_25 zPS_X8_within zLk_X8_73 (Nat.le_of_ble_eq_true rfl) (Or.inr rfl) ?_
      refine s_X8_within _ _ _ ?_
      refine wx_r1 ?_
      refine wx_neb (tgt := 35) dX8_bend_28 (by decide) (fun h28 => ?_) (fun h28 => ?_)
      · obtain ⟨x, e3, e4⟩ := zInt (a := -500) (c := 500) (by omega) (by omega) h28
        obtain ⟨bd, ⟨r1, r2, r3, r4⟩, r5, r6⟩ := hI.2.2.2.2.1 --OK
        refine wx_aload_n (i := 0) dX8_bend_35 rfl rfl ?_
        refine wx_getRG (k := 0) (t := 98) dX8_bend_36 zF_X8_51 zKo_0 rfl (Nat.le_of_ble_eq_true rfl) zRf_0_5 ?_
        refine wx_iload_n (i := 1) dX8_bend_39 rfl rfl ?_
        refine wx_iload_n (i := 2) dX8_bend_40 rfl rfl ?_
        refine wx_iload_n (i := 3) dX8_bend_41 rfl rfl ?_
        refine wx_V3 dX8_bend_42 zPV_X5_tellBend zLk_X8_191 rfl (Nat.le_of_ble_eq_true rfl) (Nat.le_of_ble_eq_true rfl) (Or.inr rfl) ?_
        refine s_X5_tellBend (show r < 7 by omega) (show z < 16 by omega) ?_
        refine wx_r1 ?_
        refine wx_iret dX8_bend_45 rfl rfl (Or.inl rfl) ?_
        refine hK _ _ (fun K' h => s_X9_bend_ok (by rw [zU_ne (by decide), zU_ne (by omega)]; exact hz1) (show r < 7 by omega) (show z < 16 by omega) h7 h15 h28 ?_)
        rw [zU_ne (by decide), zU_ne (by omega), r5.1 r z (by omega) (by omega), ← r2.1 r z (by omega) (by omega)]
        refine h _ (zIn_R hI hb (fun c j w => ?_) ⟨fun a c => if a = r ∧ c = z then x else bd a c, ⟨⟨fun a c => ?_, r1.2⟩, ⟨fun a c u v => ?_, ?_⟩, ?_, Or.inl ?_⟩, ⟨fun a c u v => ?_, ?_⟩, ?_⟩)
        · rw [zU_ne (by omega), zU_ne (by omega), zU_ne (by omega)]
        · show -500 ≤ (if a = r ∧ c = z then x else bd a c) ∧ (if a = r ∧ c = z then x else bd a c) ≤ 500
          by_cases q : a = r ∧ c = z
          · rw [if_pos q]; exact e4
          · rw [if_neg q]; exact r1.1 a c
        · show _ = zi (if a = r ∧ c = z then x else bd a c)
          rw [zU_ne (by omega), zU_ne (by omega)]
          by_cases q : a = r ∧ c = z
          · rw [if_pos q, q.1, q.2, zU_same]; exact e3
          · rw [if_neg q, zU_off (by omega)]; exact r2.1 a c u v
        · rw [zU_ne (by decide), zU_off (by decide), zU_ne (by omega)]; exact r2.2
        · obtain ⟨t, ht⟩ := r3
          exact ⟨t, fun r hr => by rw [zU_ne (by decide), zU_ne (by decide), zU_ne (by omega)]; exact ht r hr⟩
        · rw [zU_ne (by decide), zU_same]
        · show _ = zi (if a = r ∧ c = z then x else bd a c)
          by_cases q : a = r ∧ c = z
          · rw [if_pos q, q.1, q.2, zU_same]; exact e3
          · rw [if_neg q, zU_off (by omega), zU_ne (by decide), zU_ne (by omega)]; exact r5.1 a c u v
        · rw [zU_ne (by decide), zU_ne (by decide), zU_ne (by omega)]; exact r5.2
        · obtain ⟨t, ht⟩ := r6
          exact ⟨t, fun r hr => by rw [zU_ne (by decide), zU_ne (by decide), zU_ne (by omega)]; exact ht r hr⟩
      · have hbad := h28 --C
        refine wx_sipush (v := (-1000)) dX8_bend_31 (by decide) ?_
        refine wx_iret dX8_bend_34 rfl rfl (Or.inl rfl) ?_
        exact hK _ _ (fun K' h => s_X9_bend_bad hz1 (fun w => hbad w.2.2) (h mm (zIn_0 hI hb)))
theorem op_bear {d : Nat} {K : List Value → zS → Prop} {mm : zM} {sc : Nat → Int32} {ln b n : Nat} {a0 : Int32} (hI : zIn sc ln n b mm) (hb : b < 1000) (hK : ∀ (x : Int32) (m1 : zM), zAgr sc ln (b + 1) (d + 80) mX9_bear [.ref 128, .int a0] (.int x) m1 → K [.int x] (zG m1))  : wm (d + 80) mX8_bear [.ref 0, .int a0] (zG mm) K := by
  obtain ⟨hn4, hn16, hb1000, hz0, hz1⟩ := hI.1
  refine wm_of2 (L0 := [some (.ref 0), some (.int a0)]) zCm_X8_bear (Or.inl rfl) (Nat.le_of_ble_eq_true rfl) rfl ?_
  refine wx_iload_n (i := 1) dX8_bear_0 rfl rfl ?_
  refine wx_iconst (v := (-1)) dX8_bear_1 (by decide) ?_
  refine wx_icmp_ne (tgt := 13) dX8_bear_2 (by decide) (fun h2 => ?_) (fun h2 => ?_)
  · skip
    refine wx_iload_n (i := 1) dX8_bear_13 rfl rfl ?_
    refine wx_iconst (v := 0) dX8_bear_14 (by decide) ?_
    refine wx_iconst (v := 5) dX8_bear_15 (by decide) ?_
    refine wx_S3 dX8_bear_16 zPS_X8_within zLk_X8_73 (Nat.le_of_ble_eq_true rfl) (Or.inr rfl) ?_
    refine s_X8_within _ _ _ ?_
    refine wx_r1 ?_
    refine wx_eqb (tgt := 33) dX8_bear_19 (by decide) (fun h19 => ?_) (fun h19 => ?_)
    · have hbad := h19 --A
      refine wx_iconst (v := (-1)) dX8_bear_33 (by decide) ?_
      refine wx_iret dX8_bear_34 rfl rfl (Or.inl rfl) ?_
      exact hK _ _ (fun K' h => s_X9_bear_bad (fun w => hbad ⟨by
        have w1 := w.1
        rw [← zi_of a0, zm_1, zi_le (by omega) (zrng a0)] at w1
        rw [← zi_of a0, zl_0, zi_le (by omega) (zrng a0)]
        have w2 : a0.toInt ≠ -1 := fun q => h2 (by rw [← zi_of a0, q]; rfl)
        omega, w.2⟩) (h mm (zIn_0 hI hb)))
    · obtain ⟨r, e1, e1l⟩ := zNat (m := 5) (by omega) h19
      subst e1
      obtain ⟨bd, ⟨r1, r2, r3, r4⟩, r5, r6⟩ := hI.2.2.2.2.1 --ONE
      refine wx_aload_n (i := 0) dX8_bear_22 rfl rfl ?_
      refine wx_getRG (k := 0) (t := 98) dX8_bear_23 zF_X8_51 zKo_0 rfl (Nat.le_of_ble_eq_true rfl) zRf_0_5 ?_
      refine wx_iload_n (i := 1) dX8_bear_26 rfl rfl ?_
      refine wx_V1 dX8_bear_27 zPV_X5_shareOf zLk_X8_197 rfl (Nat.le_of_ble_eq_true rfl) (Nat.le_of_ble_eq_true rfl) (Or.inr rfl) ?_
      refine s_X5_shareOf (d := d + 61) (bd := bd) (n := n) ⟨r1, r2, r3, r4⟩ (show r < 6 by omega) (fun m1 f1 f3 => ?_)
      refine wx_r1 ?_
      refine wx_goto (tgt := 34) dX8_bear_30 (by decide) ?_
      refine wx_iret dX8_bear_34 rfl rfl (Or.inl rfl) ?_
      have hM : zMb bd n m1 := ⟨fun r z u v => by rw [f1 140 _ (by omega) (by omega)]; exact r5.1 r z u v, by rw [f1 128 0 (by omega) (by omega)]; exact r5.2⟩
      have ht : ∃ t : List Nat, ∀ r, r < 6 → m1 150 r = nI (t.getD r 0) := by
        obtain ⟨t, ht⟩ := r6
        exact ⟨t, fun r hr => by rw [f1 150 r (by omega) (by omega)]; exact ht r hr⟩
      have hfin : ∀ m2 : zM, zFe m1 m2 → (∃ t : List Nat, ∀ r, r < 6 → m2 150 r = nI (t.getD r 0)) → zInv sc ln (b + 1) m2 := fun m2 f2 f4 => zIn_R hI hb (fun c j w => by rw [f2 c j (by omega) (by omega) (by omega), f1 c j (by omega) (by omega)]) ⟨bd, zRI_fr f3 (fun c j w => f2 c j (by omega) (by omega) (by omega)), zMb_fe hM f2, f4⟩
      exact hK _ _ (fun K' h => s_X9_bear_one r1 hM ht (show r < 6 by omega) (fun m2 a c => h m2 (hfin m2 a c)))
  · subst h2
    obtain ⟨bd, ⟨r1, r2, r3, r4⟩, r5, r6⟩ := hI.2.2.2.2.1 --ALL
    refine wx_aload_n (i := 0) dX8_bear_5 rfl rfl ?_
    refine wx_getRG (k := 0) (t := 98) dX8_bear_6 zF_X8_51 zKo_0 rfl (Nat.le_of_ble_eq_true rfl) zRf_0_5 ?_
    refine wx_V0 dX8_bear_9 zPV_X5_leastSpread zLk_X8_194 rfl (Nat.le_of_ble_eq_true rfl) (Nat.le_of_ble_eq_true rfl) (Or.inr rfl) ?_
    refine s_X5_leastSpread (d := d + 61) (bd := bd) (n := n) ⟨r1, r2, r3, r4⟩ (fun m1 f1 f3 => ?_)
    refine wx_r1 ?_
    refine wx_iret dX8_bear_12 rfl rfl (Or.inl rfl) ?_
    have hM : zMb bd n m1 := ⟨fun r z u v => by rw [f1 140 _ (by omega) (by omega)]; exact r5.1 r z u v, by rw [f1 128 0 (by omega) (by omega)]; exact r5.2⟩
    have ht : ∃ t : List Nat, ∀ r, r < 6 → m1 150 r = nI (t.getD r 0) := by
      obtain ⟨t, ht⟩ := r6
      exact ⟨t, fun r hr => by rw [f1 150 r (by omega) (by omega)]; exact ht r hr⟩
    have hfin : ∀ m2 : zM, zFe m1 m2 → (∃ t : List Nat, ∀ r, r < 6 → m2 150 r = nI (t.getD r 0)) → zInv sc ln (b + 1) m2 := fun m2 f2 f4 => zIn_R hI hb (fun c j w => by rw [f2 c j (by omega) (by omega) (by omega), f1 c j (by omega) (by omega)]) ⟨bd, zRI_fr f3 (fun c j w => f2 c j (by omega) (by omega) (by omega)), zMb_fe hM f2, f4⟩
    exact hK _ _ (fun K' h => s_X9_bear_all r1 hM ht (fun m2 a c => h m2 (hfin m2 a c)))
theorem op_joined {d : Nat} {K : List Value → zS → Prop} {mm : zM} {sc : Nat → Int32} {ln b n : Nat} {a0 : Int32} (hI : zIn sc ln n b mm) (hb : b < 1000) (hK : ∀ (x : Int32) (m1 : zM), zAgr sc ln (b + 1) (d + 80) mX9_joined [.ref 128, .int a0] (.int x) m1 → K [.int x] (zG m1))  : wm (d + 80) mX8_joined [.ref 0, .int a0] (zG mm) K := by
  obtain ⟨hn4, hn16, hb1000, hz0, hz1⟩ := hI.1
  obtain ⟨g, L, kI, kM, kG⟩ := hI.2.1
  have hnn : n - 1 + 1 = n := by omega
  refine wm_of2 (L0 := [some (.ref 0), some (.int a0)]) zCm_X8_joined (Or.inl rfl) (Nat.le_of_ble_eq_true rfl) rfl ?_
  refine wx_iload_n (i := 1) dX8_joined_0 rfl rfl ?_
  refine wx_if_ne (tgt := 12) dX8_joined_1 (by decide) (fun h1 => ?_) (fun h1 => ?_)
  · skip
    refine wx_iload_n (i := 1) dX8_joined_12 rfl rfl ?_
    refine wx_iconst (v := 1) dX8_joined_13 (by decide) ?_
    refine wx_iconst (v := 2) dX8_joined_14 (by decide) ?_
    refine wx_S3 dX8_joined_15 zPS_X8_within zLk_X8_73 (Nat.le_of_ble_eq_true rfl) (Or.inr rfl) ?_
    refine s_X8_within _ _ _ ?_
    refine wx_r1 ?_
    refine wx_eqb (tgt := 32) dX8_joined_18 (by decide) (fun h18 => ?_) (fun h18 => ?_)
    · have hbad := h18 --A
      refine wx_bipush (v := (-100)) dX8_joined_32 (by decide) ?_
      refine wx_iret dX8_joined_34 rfl rfl (Or.inl rfl) ?_
      exact hK _ _ (fun K' h => s_X9_joined_bad (fun w => hbad ⟨by
        have w1 := w.1
        rw [← zi_of a0, zl_0, zi_le (by omega) (zrng a0)] at w1
        rw [← zi_of a0, zl_1, zi_le (by omega) (zrng a0)]
        have w2 : a0.toInt ≠ 0 := fun q => h1 (by rw [← zi_of a0, q]; rfl)
        omega, w.2⟩) (h mm (zIn_0 hI hb)))
    · obtain ⟨t, e1, e1l⟩ := zNat (m := 2) (by omega) (show 0 ≤ a0 ∧ a0 ≤ zi 2 from ⟨Int32.le_trans (by decide) h18.1, h18.2⟩)
      have e1g : 1 ≤ t := by
        have := h18.1
        rw [e1, show (1 : Int32) = nI 1 from rfl, nI_leI (by omega) (by omega)] at this
        exact this
      subst e1 --ONE
      refine wx_aload_n (i := 0) dX8_joined_21 rfl rfl ?_
      refine wx_getRG (k := 0) (t := 2) dX8_joined_22 zF_X8_19 zKo_0 rfl (Nat.le_of_ble_eq_true rfl) zRf_0_1 ?_
      refine wx_iload_n (i := 1) dX8_joined_25 rfl rfl ?_
      refine wx_V1 dX8_joined_26 zPV_X3_shiftOf zLk_X8_124 rfl (Nat.le_of_ble_eq_true rfl) (Nat.le_of_ble_eq_true rfl) (Or.inr rfl) ?_
      refine s_X3_shiftOf kI (show 1 ≤ t ∧ t ≤ 2 by omega) (fun m1 f1 f3 => ?_)
      refine wx_r1 ?_
      refine wx_goto (tgt := 34) dX8_joined_29 (by decide) ?_
      refine wx_iret dX8_joined_34 rfl rfl (Or.inl rfl) ?_
      have hM : zMd g L (n - 1) m1 := zMd_fr kM (fun c j w => f1 c j (by omega) (by omega))
      have hfin : ∀ m2 : zM, zFm m1 m2 → zInv sc ln (b + 1) m2 := fun m2 f2 => zIn_K hI hb (fun c j w => by rw [f2 c j (by omega) (by omega) (by omega), f1 c j (by omega) (by omega)]) ⟨g, L, zKI_fr f3 (fun c j w => f2 c j (by omega) (by omega) (by omega)), zMd_fm hM f2, kG⟩
      have hz2 : m1 128 0 = nI n := by rw [f1 128 0 (by omega) (by omega)]; exact hz1
      exact hK _ _ (fun K' h => s_X9_joined_k kI.1 hM kG (show 1 ≤ t ∧ t ≤ 2 by omega) (fun m2 a => h m2 (hfin m2 a)))
  · subst h1 --ALL
    refine wx_aload_n (i := 0) dX8_joined_4 rfl rfl ?_
    refine wx_getRG (k := 0) (t := 2) dX8_joined_5 zF_X8_19 zKo_0 rfl (Nat.le_of_ble_eq_true rfl) zRf_0_1 ?_
    refine wx_V0 dX8_joined_8 zPV_X3_howManyDropped zLk_X8_120 rfl (Nat.le_of_ble_eq_true rfl) (Nat.le_of_ble_eq_true rfl) (Or.inr rfl) ?_
    refine s_X3_howManyDropped kI (fun m1 f1 f3 => ?_)
    refine wx_r1 ?_
    refine wx_iret dX8_joined_11 rfl rfl (Or.inl rfl) ?_
    have hM : zMd g L (n - 1) m1 := zMd_fr kM (fun c j w => f1 c j (by omega) (by omega))
    have hfin : ∀ m2 : zM, zFm m1 m2 → zInv sc ln (b + 1) m2 := fun m2 f2 => zIn_K hI hb (fun c j w => by rw [f2 c j (by omega) (by omega) (by omega), f1 c j (by omega) (by omega)]) ⟨g, L, zKI_fr f3 (fun c j w => f2 c j (by omega) (by omega) (by omega)), zMd_fm hM f2, kG⟩
    have hz2 : m1 128 0 = nI n := by rw [f1 128 0 (by omega) (by omega)]; exact hz1
    exact hK _ _ (fun K' h => s_X9_joined_0 kI.1 hM kG (fun m2 a => h m2 (hfin m2 a)))
theorem op_step {d : Nat} {K : List Value → zS → Prop} {mm : zM} {sc : Nat → Int32} {ln b n : Nat} {a0 : Int32} (hI : zIn sc ln n b mm) (hb : b < 1000) (hK : ∀ (x : Int32) (m1 : zM), zAgr sc ln (b + 1) (d + 80) mX9_step [.ref 128, .int a0] (.int x) m1 → K [.int x] (zG m1))  : wm (d + 80) mX8_step [.ref 0, .int a0] (zG mm) K := by
  obtain ⟨hn4, hn16, hb1000, hz0, hz1⟩ := hI.1
  obtain ⟨g, L, kI, kM, kG⟩ := hI.2.1
  have hnn : n - 1 + 1 = n := by omega
  refine wm_of2 (L0 := [some (.ref 0), some (.int a0)]) zCm_X8_step (Or.inl rfl) (Nat.le_of_ble_eq_true rfl) rfl ?_
  refine wx_aload_n (i := 0) dX8_step_0 rfl rfl ?_
  refine wx_iload_n (i := 1) dX8_step_1 rfl rfl ?_
  refine wx_V1 dX8_step_2 zPV_X8_isStep zLk_X8_110 rfl (Nat.le_of_ble_eq_true rfl) (Nat.le_of_ble_eq_true rfl) (Or.inr rfl) ?_
  refine s_X8_isStep _ ?_
  rw [hz0]
  refine wx_r1 ?_
  refine wx_eqb (tgt := 19) dX8_step_5 (by decide) (fun h5 => ?_) (fun h5 => ?_)
  · have hbad := h5 --A
    refine wx_sipush (v := 10000) dX8_step_19 (by decide) ?_
    refine wx_iret dX8_step_22 rfl rfl (Or.inl rfl) ?_
    exact hK _ _ (fun K' h => s_X9_step_bad (fun w => hbad (by rw [hz1] at w; exact w)) (h mm (zIn_0 hI hb)))
  · obtain ⟨i, e1, e1l⟩ := zNat (a := a0) (m := (n : Int) - 2) (by omega) (by have := h5; rw [zl_2, zi_nI, zi_sub] at this; exact this)
    subst e1 --OK
    refine wx_aload_n (i := 0) dX8_step_8 rfl rfl ?_
    refine wx_getRG (k := 0) (t := 2) dX8_step_9 zF_X8_19 zKo_0 rfl (Nat.le_of_ble_eq_true rfl) zRf_0_1 ?_
    refine wx_iload_n (i := 1) dX8_step_12 rfl rfl ?_
    refine wx_V1 dX8_step_13 zPV_X3_stepOf zLk_X8_127 rfl (Nat.le_of_ble_eq_true rfl) (Nat.le_of_ble_eq_true rfl) (Or.inr rfl) ?_
    refine s_X3_stepOf kI (show i < n - 1 by omega) (fun m1 f1 f3 => ?_)
    refine wx_r1 ?_
    refine wx_goto (tgt := 22) dX8_step_16 (by decide) ?_
    refine wx_iret dX8_step_22 rfl rfl (Or.inl rfl) ?_
    have hM : zMd g L (n - 1) m1 := zMd_fr kM (fun c j w => f1 c j (by omega) (by omega))
    have hfin : ∀ m2 : zM, zFm m1 m2 → zInv sc ln (b + 1) m2 := fun m2 f2 => zIn_K hI hb (fun c j w => by rw [f2 c j (by omega) (by omega) (by omega), f1 c j (by omega) (by omega)]) ⟨g, L, zKI_fr f3 (fun c j w => f2 c j (by omega) (by omega) (by omega)), zMd_fm hM f2, kG⟩
    have hz2 : m1 128 0 = nI n := by rw [f1 128 0 (by omega) (by omega)]; exact hz1
    exact hK _ _ (fun K' h => s_X9_step_ok kI.1 hM kG (show i < n - 1 by omega) (by rw [hz2]; exact h5) (fun m2 a => h m2 (hfin m2 a)))
theorem op_profile {d : Nat} {K : List Value → zS → Prop} {mm : zM} {sc : Nat → Int32} {ln b n : Nat} {a0 : Int32} (hI : zIn sc ln n b mm) (hb : b < 1000) (hK : ∀ (x : Int32) (m1 : zM), zAgr sc ln (b + 1) (d + 80) mX9_profile [.ref 128, .int a0] (.int x) m1 → K [.int x] (zG m1))  : wm (d + 80) mX8_profile [.ref 0, .int a0] (zG mm) K := by
  obtain ⟨hn4, hn16, hb1000, hz0, hz1⟩ := hI.1
  obtain ⟨g, L, kI, kM, kG⟩ := hI.2.1
  have hnn : n - 1 + 1 = n := by omega
  refine wm_of2 (L0 := [some (.ref 0), some (.int a0)]) zCm_X8_profile (Or.inl rfl) (Nat.le_of_ble_eq_true rfl) rfl ?_
  refine wx_aload_n (i := 0) dX8_profile_0 rfl rfl ?_
  refine wx_iload_n (i := 1) dX8_profile_1 rfl rfl ?_
  refine wx_V1 dX8_profile_2 zPV_X8_isZone zLk_X8_95 rfl (Nat.le_of_ble_eq_true rfl) (Nat.le_of_ble_eq_true rfl) (Or.inr rfl) ?_
  refine s_X8_isZone _ ?_
  rw [hz0]
  refine wx_r1 ?_
  refine wx_eqb (tgt := 19) dX8_profile_5 (by decide) (fun h5 => ?_) (fun h5 => ?_)
  · have hbad := h5 --A
    refine wx_ldc dX8_profile_19 zKc_X8_133 ?_
    refine wx_iret dX8_profile_21 rfl rfl (Or.inl rfl) ?_
    exact hK _ _ (fun K' h => s_X9_profile_bad (fun w => hbad (by rw [hz1] at w; exact w)) (h mm (zIn_0 hI hb)))
  · obtain ⟨i, e1, e1l⟩ := zNat (a := a0) (m := (n : Int) - 1) (by omega) (by have := h5; rw [zl_1, zi_nI, zi_sub] at this; exact this)
    subst e1 --OK
    refine wx_aload_n (i := 0) dX8_profile_8 rfl rfl ?_
    refine wx_getRG (k := 0) (t := 2) dX8_profile_9 zF_X8_19 zKo_0 rfl (Nat.le_of_ble_eq_true rfl) zRf_0_1 ?_
    refine wx_iload_n (i := 1) dX8_profile_12 rfl rfl ?_
    refine wx_V1 dX8_profile_13 zPV_X3_profileOf zLk_X8_130 rfl (Nat.le_of_ble_eq_true rfl) (Nat.le_of_ble_eq_true rfl) (Or.inr rfl) ?_
    refine s_X3_profileOf kI (show i ≤ n - 1 by omega) (fun m1 f1 f3 => ?_)
    refine wx_r1 ?_
    refine wx_goto (tgt := 21) dX8_profile_16 (by decide) ?_
    refine wx_iret dX8_profile_21 rfl rfl (Or.inl rfl) ?_
    have hM : zMd g L (n - 1) m1 := zMd_fr kM (fun c j w => f1 c j (by omega) (by omega))
    have hfin : ∀ m2 : zM, zFm m1 m2 → zInv sc ln (b + 1) m2 := fun m2 f2 => zIn_K hI hb (fun c j w => by rw [f2 c j (by omega) (by omega) (by omega), f1 c j (by omega) (by omega)]) ⟨g, L, zKI_fr f3 (fun c j w => f2 c j (by omega) (by omega) (by omega)), zMd_fm hM f2, kG⟩
    have hz2 : m1 128 0 = nI n := by rw [f1 128 0 (by omega) (by omega)]; exact hz1
    exact hK _ _ (fun K' h => s_X9_profile_ok kI.1 hM kG (show i ≤ n - 1 by omega) (by rw [hz2]; exact h5) (fun m2 a => h m2 (hfin m2 a)))
theorem op_read {d : Nat} {K : List Value → zS → Prop} {mm : zM} {sc : Nat → Int32} {ln b n : Nat} {a0 a1 a2 : Int32} (hI : zIn sc ln n b mm) (hb : b < 1000) (hK : ∀ (x : Int32) (m1 : zM), zAgr sc ln (b + 1) (d + 80) mX9_read [.ref 128, .int a0, .int a1, .int a2] (.int x) m1 → K [.int x] (zG m1))  : wm (d + 80) mX8_read [.ref 0, .int a0, .int a1, .int a2] (zG mm) K := by
  obtain ⟨hn4, hn16, hb1000, hz0, hz1⟩ := hI.1
  obtain ⟨g, L, kI, kM, kG⟩ := hI.2.1
  have hnn : n - 1 + 1 = n := by omega
  refine wm_of2 (L0 := [some (.ref 0), some (.int a0), some (.int a1), some (.int a2)]) zCm_X8_read (Or.inl rfl) (Nat.le_of_ble_eq_true rfl) rfl ?_
  refine wx_iload_n (i := 1) dX8_read_0 rfl rfl ?_
  refine wx_iconst (v := 0) dX8_read_1 (by decide) ?_
  refine wx_iconst (v := 2) dX8_read_2 (by decide) ?_
  refine wx_S3 dX8_read_3 zPS_X8_within zLk_X8_73 (Nat.le_of_ble_eq_true rfl) (Or.inr rfl) ?_
  refine s_X8_within _ _ _ ?_
  refine wx_r1 ?_
  refine wx_eqb (tgt := 37) dX8_read_6 (by decide) (fun h6 => ?_) (fun h6 => ?_)
  · have hbad := h6 --A
    refine wx_sipush (v := 10000) dX8_read_37 (by decide) ?_
    refine wx_iret dX8_read_40 rfl rfl (Or.inl rfl) ?_
    exact hK _ _ (fun K' h => s_X9_read_bad hz1 (fun w => hbad w.1) (h mm (zIn_0 hI hb)))
  · obtain ⟨t, e1, e1l⟩ := zNat (m := 2) (by omega) h6
    subst e1
    refine wx_aload_n (i := 0) dX8_read_9 rfl rfl ?_
    refine wx_iload_n (i := 2) dX8_read_10 rfl rfl ?_
    refine wx_V1 dX8_read_11 zPV_X8_isStep zLk_X8_110 rfl (Nat.le_of_ble_eq_true rfl) (Nat.le_of_ble_eq_true rfl) (Or.inr rfl) ?_
    refine s_X8_isStep _ ?_
    rw [hz0]
    refine wx_r1 ?_
    refine wx_eqb (tgt := 37) dX8_read_14 (by decide) (fun h14 => ?_) (fun h14 => ?_)
    · have hbad := h14 --B
      refine wx_sipush (v := 10000) dX8_read_37 (by decide) ?_
      refine wx_iret dX8_read_40 rfl rfl (Or.inl rfl) ?_
      exact hK _ _ (fun K' h => s_X9_read_bad hz1 (fun w => hbad w.2.1) (h mm (zIn_0 hI hb)))
    · obtain ⟨i, e2, e2l⟩ := zNat (a := a1) (m := (n : Int) - 2) (by omega) (by have := h14; rw [zl_2, zi_nI, zi_sub] at this; exact this)
      subst e2
      refine wx_iload_n (i := 3) dX8_read_17 rfl rfl ?_
      refine wx_sipush (v := 5000) dX8_read_18 (by decide) ?_
      refine wx_icmp_eq (tgt := 41) dX8_read_21 (by decide) (fun h21 => ?_) (fun h21 => ?_)
      · have hv : (-1000 ≤ a2 ∧ a2 ≤ 1000) ∨ a2 = 5000 := Or.inr h21 --OK
        refine wx_aload_n (i := 0) dX8_read_41 rfl rfl ?_
        refine wx_getRG (k := 0) (t := 2) dX8_read_42 zF_X8_19 zKo_0 rfl (Nat.le_of_ble_eq_true rfl) zRf_0_1 ?_
        refine wx_iload_n (i := 1) dX8_read_45 rfl rfl ?_
        refine wx_iload_n (i := 2) dX8_read_46 rfl rfl ?_
        refine wx_iload_n (i := 3) dX8_read_47 rfl rfl ?_
        refine wx_V3 dX8_read_48 zPV_X3_tellReading zLk_X8_113 rfl (Nat.le_of_ble_eq_true rfl) (Nat.le_of_ble_eq_true rfl) (Or.inr rfl) ?_
        refine s_X3_tellReading (show t < 3 by omega) (show i < 15 by omega) ?_
        refine wx_r1 ?_
        refine wx_iret dX8_read_51 rfl rfl (Or.inl rfl) ?_
        obtain ⟨kO, kC, k7, k11⟩ := kI
        obtain ⟨x, e3, e4⟩ : ∃ x : Int, a2 = zi x ∧ (x = 5000 ∨ (-1000 ≤ x ∧ x ≤ 1000)) := by
          rcases hv with w | w
          · obtain ⟨x, q1, q2⟩ := zInt (a := -1000) (c := 1000) (by omega) (by omega) w
            exact ⟨x, q1, Or.inr q2⟩
          · exact ⟨5000, w, Or.inl rfl⟩
        refine hK _ _ (fun K' h => s_X9_read_ok (by rw [zU_ne (by decide), zU_ne (by omega)]; exact hz1) (show t < 3 by omega) (show i < 15 by omega) h6 h14 hv ?_)
        rw [zU_ne (by decide), zU_ne (by omega), kM.1 t i (by omega) (by omega), ← kC.1 t i (by omega) (by omega)]
        refine h _ (zIn_K hI hb (fun c j w => ?_) ⟨fun a c => if a = t ∧ c = i then x else g a c, L, ⟨⟨fun a c => ?_, kO.2⟩, ⟨fun a c u v => ?_, ?_, ?_⟩, ?_, Or.inl ?_⟩, ⟨fun a c u v => ?_, ?_, ?_⟩, fun a c u => ?_⟩)
        · rw [zU_ne (by omega), zU_ne (by omega), zU_ne (by omega)]
        · show (if a = t ∧ c = i then x else g a c) = 5000 ∨ (-1000 ≤ (if a = t ∧ c = i then x else g a c) ∧ (if a = t ∧ c = i then x else g a c) ≤ 1000)
          by_cases q : a = t ∧ c = i
          · rw [if_pos q]; exact e4
          · rw [if_neg q]; exact kO.1 a c
        · show _ = zi (if a = t ∧ c = i then x else g a c)
          rw [zU_ne (by omega), zU_ne (by omega)]
          by_cases q : a = t ∧ c = i
          · rw [if_pos q, q.1, q.2, zU_same]; exact e3
          · rw [if_neg q, zU_off (by omega)]; exact kC.1 a c u v
        · rw [zU_ne (by decide), zU_off (by decide), zU_ne (by omega)]; exact kC.2.1
        · rw [zU_ne (by decide), zU_off (by decide), zU_ne (by omega)]; exact kC.2.2
        · rw [zU_ne (by decide), zU_ne (by decide), zU_ne (by omega)]; exact k7
        · rw [zU_ne (by decide), zU_same]
        · show _ = zi (if a = t ∧ c = i then x else g a c)
          by_cases q : a = t ∧ c = i
          · rw [if_pos q, q.1, q.2, zU_same]; exact e3
          · rw [if_neg q, zU_off (by omega), zU_ne (by decide), zU_ne (by omega)]; exact kM.1 a c u v
        · rw [zU_ne (by decide), zU_ne (by decide), zU_ne (by omega)]; exact kM.2.1
        · rw [zU_ne (by decide), zU_ne (by decide), zU_ne (by omega)]; exact kM.2.2
        · show (if a = t ∧ c = i then x else g a c) = 5000
          rw [if_neg (by omega)]
          exact kG a c u
      · skip
        refine wx_iload_n (i := 3) dX8_read_24 rfl rfl ?_
        refine wx_sipush (v := (-1000)) dX8_read_25 (by decide) ?_
        refine wx_sipush (v := 1000) dX8_read_28 (by decide) ?_
        refine wx_S3 dX8_read_31 zPS_X8_within zLk_X8_73 (Nat.le_of_ble_eq_true rfl) (Or.inr rfl) ?_
        refine s_X8_within _ _ _ ?_
        refine wx_r1 ?_
        refine wx_neb (tgt := 41) dX8_read_34 (by decide) (fun h34 => ?_) (fun h34 => ?_)
        · have hv : (-1000 ≤ a2 ∧ a2 ≤ 1000) ∨ a2 = 5000 := Or.inl h34 --OK
          refine wx_aload_n (i := 0) dX8_read_41 rfl rfl ?_
          refine wx_getRG (k := 0) (t := 2) dX8_read_42 zF_X8_19 zKo_0 rfl (Nat.le_of_ble_eq_true rfl) zRf_0_1 ?_
          refine wx_iload_n (i := 1) dX8_read_45 rfl rfl ?_
          refine wx_iload_n (i := 2) dX8_read_46 rfl rfl ?_
          refine wx_iload_n (i := 3) dX8_read_47 rfl rfl ?_
          refine wx_V3 dX8_read_48 zPV_X3_tellReading zLk_X8_113 rfl (Nat.le_of_ble_eq_true rfl) (Nat.le_of_ble_eq_true rfl) (Or.inr rfl) ?_
          refine s_X3_tellReading (show t < 3 by omega) (show i < 15 by omega) ?_
          refine wx_r1 ?_
          refine wx_iret dX8_read_51 rfl rfl (Or.inl rfl) ?_
          obtain ⟨kO, kC, k7, k11⟩ := kI
          obtain ⟨x, e3, e4⟩ : ∃ x : Int, a2 = zi x ∧ (x = 5000 ∨ (-1000 ≤ x ∧ x ≤ 1000)) := by
            rcases hv with w | w
            · obtain ⟨x, q1, q2⟩ := zInt (a := -1000) (c := 1000) (by omega) (by omega) w
              exact ⟨x, q1, Or.inr q2⟩
            · exact ⟨5000, w, Or.inl rfl⟩
          refine hK _ _ (fun K' h => s_X9_read_ok (by rw [zU_ne (by decide), zU_ne (by omega)]; exact hz1) (show t < 3 by omega) (show i < 15 by omega) h6 h14 hv ?_)
          rw [zU_ne (by decide), zU_ne (by omega), kM.1 t i (by omega) (by omega), ← kC.1 t i (by omega) (by omega)]
          refine h _ (zIn_K hI hb (fun c j w => ?_) ⟨fun a c => if a = t ∧ c = i then x else g a c, L, ⟨⟨fun a c => ?_, kO.2⟩, ⟨fun a c u v => ?_, ?_, ?_⟩, ?_, Or.inl ?_⟩, ⟨fun a c u v => ?_, ?_, ?_⟩, fun a c u => ?_⟩)
          · rw [zU_ne (by omega), zU_ne (by omega), zU_ne (by omega)]
          · show (if a = t ∧ c = i then x else g a c) = 5000 ∨ (-1000 ≤ (if a = t ∧ c = i then x else g a c) ∧ (if a = t ∧ c = i then x else g a c) ≤ 1000)
            by_cases q : a = t ∧ c = i
            · rw [if_pos q]; exact e4
            · rw [if_neg q]; exact kO.1 a c
          · show _ = zi (if a = t ∧ c = i then x else g a c)
            rw [zU_ne (by omega), zU_ne (by omega)]
            by_cases q : a = t ∧ c = i
            · rw [if_pos q, q.1, q.2, zU_same]; exact e3
            · rw [if_neg q, zU_off (by omega)]; exact kC.1 a c u v
          · rw [zU_ne (by decide), zU_off (by decide), zU_ne (by omega)]; exact kC.2.1
          · rw [zU_ne (by decide), zU_off (by decide), zU_ne (by omega)]; exact kC.2.2
          · rw [zU_ne (by decide), zU_ne (by decide), zU_ne (by omega)]; exact k7
          · rw [zU_ne (by decide), zU_same]
          · show _ = zi (if a = t ∧ c = i then x else g a c)
            by_cases q : a = t ∧ c = i
            · rw [if_pos q, q.1, q.2, zU_same]; exact e3
            · rw [if_neg q, zU_off (by omega), zU_ne (by decide), zU_ne (by omega)]; exact kM.1 a c u v
          · rw [zU_ne (by decide), zU_ne (by decide), zU_ne (by omega)]; exact kM.2.1
          · rw [zU_ne (by decide), zU_ne (by decide), zU_ne (by omega)]; exact kM.2.2
          · show (if a = t ∧ c = i then x else g a c) = 5000
            rw [if_neg (by omega)]
            exact kG a c u
        · have hbad := h34 --C
          refine wx_sipush (v := 10000) dX8_read_37 (by decide) ?_
          refine wx_iret dX8_read_40 rfl rfl (Or.inl rfl) ?_
          exact hK _ _ (fun K' h => s_X9_read_bad hz1 (fun w => w.2.2.elim hbad h21) (h mm (zIn_0 hI hb)))
