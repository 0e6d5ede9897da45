/-! calls: wires -/
theorem op_wire {d : Nat} {K : List Value → zS → Prop} {mm : zM} {sc : Nat → Int32} {ln b n : Nat} {a0 a1 a2 : Int32} (hI : zIn sc ln n b mm) (hb : b < 1000) (hK : ∀ (x : Int32) (m1 : zM), zAgr sc ln (b + 1) (d + 80) mX9_wire [.ref 128, .int a0, .int a1, .int a2] (.int x) m1 → K [.int x] (zG m1))  : wm (d + 80) mX8_wire [.ref 0, .int a0, .int a1, .int a2] (zG mm) K := by
  obtain ⟨hn4, hn16, hb1000, hz0, hz1⟩ := hI.1
  refine wm_of2 (L0 := [some (.ref 0), some (.int a0), some (.int a1), some (.int a2)]) zCm_X8_wire (Or.inl rfl) (Nat.le_of_ble_eq_true rfl) rfl ?_
  refine wx_aload_n (i := 0) dX8_wire_0 rfl rfl ?_
  refine wx_iload_n (i := 1) dX8_wire_1 rfl rfl ?_
  refine wx_V1 dX8_wire_2 zPV_X8_isZone zLk_X8_95 rfl (Nat.le_of_ble_eq_true rfl) (Nat.le_of_ble_eq_true rfl) (Or.inr rfl) ?_
  refine s_X8_isZone _ ?_
  rw [hz0]
  refine wx_r1 ?_
  refine wx_eqb (tgt := 32) dX8_wire_5 (by decide) (fun h5 => ?_) (fun h5 => ?_)
  · have hbad := h5 --A
    refine wx_iconst (v := (-1)) dX8_wire_32 (by decide) ?_
    refine wx_iret dX8_wire_33 rfl rfl (Or.inl rfl) ?_
    exact hK _ _ (fun K' h => s_X9_wire_bad hz1 (fun w => hbad w.1) (h mm (zIn_0 hI hb)))
  · obtain ⟨i, e1, e1l⟩ := zNat (a := a0) (m := (n : Int) - 1) (by omega) (by have := h5; rw [zl_1, zi_nI, zi_sub] at this; exact this)
    refine wx_aload_n (i := 0) dX8_wire_8 rfl rfl ?_
    refine wx_iload_n (i := 2) dX8_wire_9 rfl rfl ?_
    refine wx_V1 dX8_wire_10 zPV_X8_isZone zLk_X8_95 rfl (Nat.le_of_ble_eq_true rfl) (Nat.le_of_ble_eq_true rfl) (Or.inr rfl) ?_
    refine s_X8_isZone _ ?_
    rw [hz0]
    refine wx_r1 ?_
    refine wx_eqb (tgt := 32) dX8_wire_13 (by decide) (fun h13 => ?_) (fun h13 => ?_)
    · have hbad := h13 --B
      refine wx_iconst (v := (-1)) dX8_wire_32 (by decide) ?_
      refine wx_iret dX8_wire_33 rfl rfl (Or.inl rfl) ?_
      exact hK _ _ (fun K' h => s_X9_wire_bad hz1 (fun w => hbad w.2.1) (h mm (zIn_0 hI hb)))
    · obtain ⟨j, e2, e2l⟩ := zNat (a := a1) (m := (n : Int) - 1) (by omega) (by have := h13; rw [zl_1, zi_nI, zi_sub] at this; exact this)
      refine wx_iload_n (i := 1) dX8_wire_16 rfl rfl ?_
      refine wx_iload_n (i := 2) dX8_wire_17 rfl rfl ?_
      refine wx_icmp_ge (tgt := 32) dX8_wire_18 (by decide) (fun h18 => ?_) (fun h18 => ?_)
      · have hbad := (show ¬ a0 < a1 from fun q => z_ltn q h18) --C
        refine wx_iconst (v := (-1)) dX8_wire_32 (by decide) ?_
        refine wx_iret dX8_wire_33 rfl rfl (Or.inl rfl) ?_
        exact hK _ _ (fun K' h => s_X9_wire_bad hz1 (fun w => hbad w.2.2.1) (h mm (zIn_0 hI hb)))
      · skip
        refine wx_iload_n (i := 3) dX8_wire_21 rfl rfl ?_
        refine wx_ldc dX8_wire_22 zKc_X8_99 ?_
        refine wx_ldc dX8_wire_24 zKc_X8_100 ?_
        refine wx_S3 dX8_wire_26 zPS_X8_within zLk_X8_73 (Nat.le_of_ble_eq_true rfl) (Or.inr rfl) ?_
        refine s_X8_within _ _ _ ?_
        refine wx_r1 ?_
        refine wx_neb (tgt := 34) dX8_wire_29 (by decide) (fun h29 => ?_) (fun h29 => ?_)
        · obtain ⟨wi, wj, wv, q, wO, wC, wM⟩ := hI.2.2.1
          have hq12 := wO.1
          refine wx_aload_n (i := 0) dX8_wire_34 rfl rfl ?_
          refine wx_getRG (k := 0) (t := 13) dX8_wire_35 zF_X8_28 zKo_0 rfl (Nat.le_of_ble_eq_true rfl) zRf_0_2 ?_
          refine wx_V0 dX8_wire_38 zPV_X7_howMany zLk_X8_134 rfl (Nat.le_of_ble_eq_true rfl) (Nat.le_of_ble_eq_true rfl) (Or.inr rfl) ?_
          refine s_X7_howMany ?_
          refine wx_r1 ?_
          refine wx_bipush (v := 12) dX8_wire_41 (by decide) ?_
          refine wx_icmp_ge (tgt := 59) dX8_wire_43 (by decide) (fun h43 => ?_) (fun h43 => ?_)
          · rw [wC.1, show (12 : Int32) = nI 12 from rfl, nI_leI (by omega) (by omega)] at h43 --FULL
            refine wx_bipush (v := (-3)) dX8_wire_59 (by decide) ?_
            refine wx_iret dX8_wire_61 rfl rfl (Or.inl rfl) ?_
            exact hK _ _ (fun K' h => s_X9_wire_full hz1 h5 h13 (z_nle h18) h29 (by rw [wM.1, show q = 12 by omega]; rfl) (h mm (zIn_0 hI hb)))
          · rw [wC.1, show (12 : Int32) = nI 12 from rfl, nI_leI (by omega) (by omega)] at h43 --OK
            refine wx_aload_n (i := 0) dX8_wire_46 rfl rfl ?_
            refine wx_getRG (k := 0) (t := 13) dX8_wire_47 zF_X8_28 zKo_0 rfl (Nat.le_of_ble_eq_true rfl) zRf_0_2 ?_
            refine wx_iload_n (i := 1) dX8_wire_50 rfl rfl ?_
            refine wx_iload_n (i := 2) dX8_wire_51 rfl rfl ?_
            refine wx_iload_n (i := 3) dX8_wire_52 rfl rfl ?_
            refine wx_V3 dX8_wire_53 zPV_X7_hold zLk_X8_137 rfl (Nat.le_of_ble_eq_true rfl) (Nat.le_of_ble_eq_true rfl) (Or.inr rfl) ?_
            refine s_X7_hold wC.1 (show q < 12 by omega) ?_
            refine wx_r1 ?_
            refine wx_goto (tgt := 61) dX8_wire_56 (by decide) ?_
            refine wx_iret dX8_wire_61 rfl rfl (Or.inl rfl) ?_
            have hij : i < j := by
              rw [e1, e2, nI_leI (by omega) (by omega)] at h18
              omega
            obtain ⟨x, e3, e4⟩ := zInt (a := -100000) (c := 100000) (by omega) (by omega) h29
            refine hK _ _ (fun K' h => s_X9_wire_ok (n := n) (by rw [zU_ne (by decide), zU_ne (by decide), zU_ne (by decide), zU_ne (by decide)]; exact hz1) h5 h13 (z_nle h18) h29 (w := q) (by omega) (by rw [zU_ne (by decide), zU_ne (by decide), zU_ne (by decide), zU_ne (by decide)]; exact wM.1) ?_)
            refine h _ (zIn_W hI hb (fun c j w => ?_) ⟨fun k => if k = q then i else wi k, fun k => if k = q then j else wj k, fun k => if k = q then x else wv k, q + 1, ⟨by omega, fun k hk => ?_⟩, ⟨?_, fun k hk => ⟨?_, ?_, ?_⟩⟩, ⟨zU_same _ _ _ _, fun k hk => ⟨?_, ?_, ?_⟩⟩⟩)
            · rw [zU_off (by omega), zU_ne (by omega), zU_ne (by omega), zU_ne (by omega), zU_ne (by omega), zU_ne (by omega), zU_ne (by omega), zU_ne (by omega)]
            · show ((if k = q then i else wi k) < (if k = q then j else wj k) ∧ (if k = q then j else wj k) ≤ n - 1) ∧ (-100000 ≤ (if k = q then x else wv k) ∧ (if k = q then x else wv k) ≤ 100000)
              by_cases e : k = q
              · rw [if_pos e, if_pos e, if_pos e]; exact ⟨⟨hij, by omega⟩, e4⟩
              · rw [if_neg e, if_neg e, if_neg e]; exact wO.2 k (by omega)
            · rw [zU_ne (by decide), zU_ne (by decide), zU_ne (by decide), zU_ne (by decide), zU_same]
            · show _ = nI (if k = q then i else wi k)
              rw [zU_ne (by decide), zU_ne (by decide), zU_ne (by decide), zU_ne (by decide), zU_ne (by decide), zU_ne (by decide), zU_ne (by decide)]
              by_cases e : k = q
              · rw [if_pos e, e, zU_same]; exact e1
              · rw [if_neg e, zU_off (fun z => e z.2)]; exact (wC.2 k (by omega)).1
            · show _ = nI (if k = q then j else wj k)
              rw [zU_ne (by decide), zU_ne (by decide), zU_ne (by decide), zU_ne (by decide), zU_ne (by decide), zU_ne (by decide)]
              by_cases e : k = q
              · rw [if_pos e, e, zU_same]; exact e2
              · rw [if_neg e, zU_off (fun z => e z.2), zU_ne (by decide)]; exact (wC.2 k (by omega)).2.1
            · show _ = zi (if k = q then x else wv k)
              rw [zU_ne (by decide), zU_ne (by decide), zU_ne (by decide), zU_ne (by decide), zU_ne (by decide)]
              by_cases e : k = q
              · rw [if_pos e, e, zU_same]; exact e3
              · rw [if_neg e, zU_off (fun z => e z.2), zU_ne (by decide), zU_ne (by decide)]; exact (wC.2 k (by omega)).2.2
            · show _ = nI (if k = q then i else wi k)
              rw [zU_ne (by decide), zU_ne (by decide), zU_ne (by decide)]
              by_cases e : k = q
              · rw [if_pos e, e, zU_same]; exact e1
              · rw [if_neg e, zU_off (fun z => e z.2), zU_ne (by decide), zU_ne (by decide), zU_ne (by decide), zU_ne (by decide)]; exact (wM.2 k (by omega)).1
            · show _ = nI (if k = q then j else wj k)
              rw [zU_ne (by decide), zU_ne (by decide)]
              by_cases e : k = q
              · rw [if_pos e, e, zU_same]; exact e2
              · rw [if_neg e, zU_off (fun z => e z.2), zU_ne (by decide), zU_ne (by decide), zU_ne (by decide), zU_ne (by decide), zU_ne (by decide)]; exact (wM.2 k (by omega)).2.1
            · show _ = zi (if k = q then x else wv k)
              rw [zU_ne (by decide)]
              by_cases e : k = q
              · rw [if_pos e, e, zU_same]; exact e3
              · rw [if_neg e, zU_off (fun z => e z.2), zU_ne (by decide), zU_ne (by decide), zU_ne (by decide), zU_ne (by decide), zU_ne (by decide), zU_ne (by decide)]; exact (wM.2 k (by omega)).2.2
        · have hbad := h29 --D
          refine wx_iconst (v := (-1)) dX8_wire_32 (by decide) ?_
          refine wx_iret dX8_wire_33 rfl rfl (Or.inl rfl) ?_
          exact hK _ _ (fun K' h => s_X9_wire_bad hz1 (fun w => hbad w.2.2.2) (h mm (zIn_0 hI hb)))
theorem op_wires {d : Nat} {K : List Value → zS → Prop} {mm : zM} {sc : Nat → Int32} {ln b n : Nat} {a0 : Int32} (hI : zIn sc ln n b mm) (hb : b < 1000) (hK : ∀ (x : Int32) (m1 : zM), zAgr sc ln (b + 1) (d + 80) mX9_wires [.ref 128, .int a0] (.int x) m1 → K [.int x] (zG m1))  : wm (d + 80) mX8_wires [.ref 0, .int a0] (zG mm) K := by
  obtain ⟨hn4, hn16, hb1000, hz0, hz1⟩ := hI.1
  obtain ⟨wi, wj, wv, q, wO, wC, wM⟩ := hI.2.2.1
  have hq12 := wO.1
  obtain ⟨g, L, kI, kM, kG⟩ := hI.2.1
  refine wm_of2 (L0 := [some (.ref 0), some (.int a0)]) zCm_X8_wires (Or.inl rfl) (Nat.le_of_ble_eq_true rfl) rfl ?_
  refine wx_iload_n (i := 1) dX8_wires_0 rfl rfl ?_
  refine wx_iconst (v := 0) dX8_wires_1 (by decide) ?_
  refine wx_iconst (v := 2) dX8_wires_2 (by decide) ?_
  refine wx_S3 dX8_wires_3 zPS_X8_within zLk_X8_73 (Nat.le_of_ble_eq_true rfl) (Or.inr rfl) ?_
  refine s_X8_within _ _ _ ?_
  refine wx_r1 ?_
  refine wx_eqb (tgt := 18) dX8_wires_6 (by decide) (fun h6 => ?_) (fun h6 => ?_)
  · skip
    refine wx_iload_n (i := 1) dX8_wires_18 rfl rfl ?_
    refine wx_iconst (v := 3) dX8_wires_19 (by decide) ?_
    refine wx_aload_n (i := 0) dX8_wires_20 rfl rfl ?_
    refine wx_getRG (k := 0) (t := 13) dX8_wires_21 zF_X8_28 zKo_0 rfl (Nat.le_of_ble_eq_true rfl) zRf_0_2 ?_
    refine wx_V0 dX8_wires_24 zPV_X7_howMany zLk_X8_134 rfl (Nat.le_of_ble_eq_true rfl) (Nat.le_of_ble_eq_true rfl) (Or.inr rfl) ?_
    refine s_X7_howMany ?_
    refine wx_r1 ?_
    refine wx_iconst (v := 2) dX8_wires_27 (by decide) ?_
    refine wx_iadd dX8_wires_28 ?_
    refine wx_S3 dX8_wires_29 zPS_X8_within zLk_X8_73 (Nat.le_of_ble_eq_true rfl) (Or.inr rfl) ?_
    refine s_X8_within _ _ _ ?_
    refine wx_r1 ?_
    refine wx_eqb (tgt := 48) dX8_wires_32 (by decide) (fun h32 => ?_) (fun h32 => ?_)
    · have hbad := h32 --A
      refine wx_ldc dX8_wires_48 zKc_X8_133 ?_
      refine wx_iret dX8_wires_50 rfl rfl (Or.inl rfl) ?_
      exact hK _ _ (fun K' h => s_X9_wires_bad (fun w => by
        rw [wM.1, ← zi_of a0, zl_0, zl_2, zi_nI, zi_add, zi_le (by omega) (zrng a0), zi_le (zrng a0) (by omega)] at w
        rw [← zi_of a0, zl_0, zl_2, zi_le (by omega) (zrng a0), zi_le (zrng a0) (by omega)] at h6
        rw [wC.1, ← zi_of a0, zl_3, zl_2, zi_nI, zi_add, zi_le (by omega) (zrng a0), zi_le (zrng a0) (by omega)] at hbad
        omega) (h mm (zIn_0 hI hb)))
    · obtain ⟨x, e1, e2, e3⟩ := zInt (v := a0) (a := 3) (c := (q : Int) + 2) (by omega) (by omega) (by
        have := h32
        rw [wC.1, zl_2, zi_nI, zi_add] at this
        exact this)
      have e4 : a0 = nI (x.toNat - 3 + 3) := by rw [e1, zi_nI]; exact congrArg zi (by omega)
      subst e4 --OFF
      refine wx_aload_n (i := 0) dX8_wires_35 rfl rfl ?_
      refine wx_getRG (k := 0) (t := 13) dX8_wires_36 zF_X8_28 zKo_0 rfl (Nat.le_of_ble_eq_true rfl) zRf_0_2 ?_
      refine wx_iload_n (i := 1) dX8_wires_39 rfl rfl ?_
      refine wx_iconst (v := 3) dX8_wires_40 (by decide) ?_
      refine wx_isub dX8_wires_41 ?_
      refine wx_V1 dX8_wires_42 zPV_X7_offBy zLk_X8_143 rfl (Nat.le_of_ble_eq_true rfl) (Nat.le_of_ble_eq_true rfl) (Or.inr rfl) ?_
      rw [show nI (x.toNat - 3 + 3) - 3 = nI (x.toNat - 3) from by rw [zl_3, zi_nI, zi_nI, zi_sub]; exact congrArg zi (by omega)]
      refine s_X7_offBy kI wO wC (show x.toNat - 3 < q by omega) (fun m1 f1 f3 => ?_)
      refine wx_r1 ?_
      refine wx_goto (tgt := 50) dX8_wires_45 (by decide) ?_
      refine wx_iret dX8_wires_50 rfl rfl (Or.inl rfl) ?_
      have hM : zMd g L (n - 1) m1 := zMd_fr kM (fun c j w => f1 c j (by omega) (by omega))
      have hC2 : zWC wi wj wv q m1 := zWC_fk wC f1
      have hM2 : zWM wi wj wv q m1 := ⟨by rw [f1 128 8 (by omega) (by omega)]; exact wM.1, fun k hk => ⟨by rw [f1 132 k (by omega) (by omega)]; exact (wM.2 k hk).1, by rw [f1 133 k (by omega) (by omega)]; exact (wM.2 k hk).2.1, by rw [f1 134 k (by omega) (by omega)]; exact (wM.2 k hk).2.2⟩⟩
      have hfin : ∀ m2 : zM, zFm m1 m2 → zInv sc ln (b + 1) m2 := fun m2 f2 => zIn_K hI hb (fun c j w => by rw [f2 c j (by omega) (by omega) (by omega), f1 c j (by omega) (by omega)]) ⟨g, L, zKI_fr f3 (fun c j w => f2 c j (by omega) (by omega) (by omega)), zMd_fm hM f2, kG⟩
      exact hK _ _ (fun K' h => s_X9_wires_off kI.1 hM kG wO hM2 (show x.toNat - 3 < q by omega) ⟨by rw [zl_0, zi_nI, zi_le (by omega) (by omega)]; omega, by rw [hM2.1, zl_2, zi_nI, zi_nI, zi_add, zi_le (by omega) (by omega)]; omega⟩ (fun m2 a => h m2 (hfin m2 a)))
  · skip --MANY
    refine wx_aload_n (i := 0) dX8_wires_9 rfl rfl ?_
    refine wx_getRG (k := 0) (t := 13) dX8_wires_10 zF_X8_28 zKo_0 rfl (Nat.le_of_ble_eq_true rfl) zRf_0_2 ?_
    refine wx_iload_n (i := 1) dX8_wires_13 rfl rfl ?_
    refine wx_V1 dX8_wires_14 zPV_X7_howManyOf zLk_X8_140 rfl (Nat.le_of_ble_eq_true rfl) (Nat.le_of_ble_eq_true rfl) (Or.inr rfl) ?_
    refine s_X7_howManyOf kI wO wC (fun m1 f1 f3 => ?_)
    refine wx_r1 ?_
    refine wx_iret dX8_wires_17 rfl rfl (Or.inl rfl) ?_
    have hM : zMd g L (n - 1) m1 := zMd_fr kM (fun c j w => f1 c j (by omega) (by omega))
    have hC2 : zWC wi wj wv q m1 := zWC_fk wC f1
    have hM2 : zWM wi wj wv q m1 := ⟨by rw [f1 128 8 (by omega) (by omega)]; exact wM.1, fun k hk => ⟨by rw [f1 132 k (by omega) (by omega)]; exact (wM.2 k hk).1, by rw [f1 133 k (by omega) (by omega)]; exact (wM.2 k hk).2.1, by rw [f1 134 k (by omega) (by omega)]; exact (wM.2 k hk).2.2⟩⟩
    have hfin : ∀ m2 : zM, zFm m1 m2 → zInv sc ln (b + 1) m2 := fun m2 f2 => zIn_K hI hb (fun c j w => by rw [f2 c j (by omega) (by omega) (by omega), f1 c j (by omega) (by omega)]) ⟨g, L, zKI_fr f3 (fun c j w => f2 c j (by omega) (by omega) (by omega)), zMd_fm hM f2, kG⟩
    exact hK _ _ (fun K' h => s_X9_wires_many kI.1 hM kG wO hM2 h6.2 ⟨h6.1, by
      rw [hM2.1, zl_2, zi_nI, zi_add]
      refine Int32.le_trans h6.2 ?_
      rw [zl_2, zi_le (by omega) (by omega)]; omega⟩ (fun m2 a => h m2 (hfin m2 a)))
