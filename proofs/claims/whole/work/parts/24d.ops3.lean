/-! calls: grits, rings -/
theorem op_grit {d : Nat} {K : List Value → zS → Prop} {mm : zM} {sc : Nat → Int32} {ln b n : Nat} {a0 a1 : Int32} (hI : zIn sc ln n b mm) (hb : b < 1000) (hK : ∀ (x : Int32) (m1 : zM), zAgr sc ln (b + 1) (d + 80) mX9_grit [.ref 128, .int a0, .int a1] (.int x) m1 → K [.int x] (zG m1))  : wm (d + 80) mX8_grit [.ref 0, .int a0, .int a1] (zG mm) K := by
  obtain ⟨hn4, hn16, hb1000, hz0, hz1⟩ := hI.1
  refine wm_of2 (L0 := [some (.ref 0), some (.int a0), some (.int a1)]) zCm_X8_grit (Or.inl rfl) (Nat.le_of_ble_eq_true rfl) rfl ?_
  refine wx_iload_n (i := 1) dX8_grit_0 rfl rfl ?_
  refine wx_iconst (v := 1) dX8_grit_1 (by decide) ?_
  refine wx_bipush (v := 100) dX8_grit_2 (by decide) ?_
  refine wx_S3 dX8_grit_4 zPS_X8_within zLk_X8_73 (Nat.le_of_ble_eq_true rfl) (Or.inr rfl) ?_
  refine s_X8_within _ _ _ ?_
  refine wx_r1 ?_
  refine wx_eqb (tgt := 21) dX8_grit_7 (by decide) (fun h7 => ?_) (fun h7 => ?_)
  · have hbad := h7 --A
    refine wx_iconst (v := (-1)) dX8_grit_21 (by decide) ?_
    refine wx_iret dX8_grit_22 rfl rfl (Or.inl rfl) ?_
    exact hK _ _ (fun K' h => s_X9_grit_bad (fun w => hbad w.1) (h mm (zIn_0 hI hb)))
  · skip
    refine wx_iload_n (i := 2) dX8_grit_10 rfl rfl ?_
    refine wx_iconst (v := 0) dX8_grit_11 (by decide) ?_
    refine wx_sipush (v := 200) dX8_grit_12 (by decide) ?_
    refine wx_S3 dX8_grit_15 zPS_X8_within zLk_X8_73 (Nat.le_of_ble_eq_true rfl) (Or.inr rfl) ?_
    refine s_X8_within _ _ _ ?_
    refine wx_r1 ?_
    refine wx_neb (tgt := 23) dX8_grit_18 (by decide) (fun h18 => ?_) (fun h18 => ?_)
    · obtain ⟨pt, tk, q, S, g1, g2, g3, g4, g5⟩ := hI.2.2.2.2.2.2.1
      have hq6 := g1.1.1
      obtain ⟨x, e1, e2⟩ := zInt (a := 1) (c := 100) (by omega) (by omega) h7
      obtain ⟨y, e3, e4⟩ := zInt (a := 0) (c := 200) (by omega) (by omega) h18
      refine wx_aload_n (i := 0) dX8_grit_23 rfl rfl ?_
      refine wx_getRG (k := 0) (t := 117) dX8_grit_24 zF_X8_65 zKo_0 rfl (Nat.le_of_ble_eq_true rfl) zRf_0_7 ?_
      refine wx_V0 dX8_grit_27 zPV_X2_howMany zLk_X8_212 rfl (Nat.le_of_ble_eq_true rfl) (Nat.le_of_ble_eq_true rfl) (Or.inr rfl) ?_
      refine s_X2_howMany ?_
      refine wx_r1 ?_
      refine wx_bipush (v := 6) dX8_grit_30 (by decide) ?_
      refine wx_icmp_ge (tgt := 47) dX8_grit_32 (by decide) (fun h32 => ?_) (fun h32 => ?_)
      · rw [g1.1.2.1, show (6 : Int32) = nI 6 from rfl, nI_leI (by omega) (by omega)] at h32 --FULL
        refine wx_bipush (v := (-3)) dX8_grit_47 (by decide) ?_
        refine wx_iret dX8_grit_49 rfl rfl (Or.inl rfl) ?_
        exact hK _ _ (fun K' h => s_X9_grit_full h7 h18 (by rw [g2.2.1, show q = 6 by omega]; rfl) (h mm (zIn_0 hI hb)))
      · rw [g1.1.2.1, show (6 : Int32) = nI 6 from rfl, nI_leI (by omega) (by omega)] at h32 --OK
        refine wx_aload_n (i := 0) dX8_grit_35 rfl rfl ?_
        refine wx_getRG (k := 0) (t := 117) dX8_grit_36 zF_X8_65 zKo_0 rfl (Nat.le_of_ble_eq_true rfl) zRf_0_7 ?_
        refine wx_iload_n (i := 1) dX8_grit_39 rfl rfl ?_
        refine wx_iload_n (i := 2) dX8_grit_40 rfl rfl ?_
        refine wx_V2 dX8_grit_41 zPV_X2_come zLk_X8_213 rfl (Nat.le_of_ble_eq_true rfl) (Nat.le_of_ble_eq_true rfl) (Or.inr rfl) ?_
        refine s_X2_come g1.1.2.1 (show q < 6 by omega) ?_
        refine wx_r1 ?_
        refine wx_goto (tgt := 49) dX8_grit_44 (by decide) ?_
        refine wx_iret dX8_grit_49 rfl rfl (Or.inl rfl) ?_
        refine hK _ _ (fun K' h => s_X9_grit_ok h7 h18 (w := q) (by omega) ?_ ?_)
        · rw [zU_ne (by decide), zU_ne (by decide), zU_ne (by decide), zU_ne (by decide)]; exact g2.2.1
        refine h _ (zIn_G hI hb (fun c j w => ?_) ⟨fun k => if k = q then y else pt k, fun k => if k = q then x.toNat else tk k, q + 1, S, ⟨⟨by omega, ?_, fun k hk => ⟨⟨?_, ?_⟩, ⟨?_, ?_⟩⟩⟩, Or.inl ?_⟩, ⟨by omega, zU_same _ _ _ _, fun k hk => ⟨?_, ?_⟩, fun k hk => ⟨?_, ?_⟩⟩, ?_, ?_, g5⟩)
        · rw [zU_off (by omega), zU_ne (by omega), zU_ne (by omega), zU_ne (by omega), zU_ne (by omega), zU_ne (by omega), zU_ne (by omega)]
        · rw [zU_ne (by decide), zU_ne (by decide), zU_ne (by decide), zU_off (by decide), zU_same]
        · show _ = zi (if k = q then y else pt k)
          rw [zU_ne (by decide), zU_ne (by decide), zU_ne (by decide), zU_ne (by decide), zU_ne (by decide)]
          by_cases e : k = q
          · rw [if_pos e, e, zU_same]; exact e3
          · rw [if_neg e, zU_off (fun z => e z.2), zU_ne (by decide)]; exact (g1.1.2.2 k (by omega)).1.1
        · show 0 ≤ (if k = q then y else pt k) ∧ (if k = q then y else pt k) ≤ 200
          by_cases e : k = q
          · rw [if_pos e]; exact e4
          · rw [if_neg e]; exact (g1.1.2.2 k (by omega)).1.2
        · show _ = nI (if k = q then x.toNat else tk k)
          rw [zU_ne (by decide), zU_ne (by decide), zU_ne (by decide), zU_ne (by decide), zU_ne (by decide), zU_ne (by decide)]
          by_cases e : k = q
          · rw [if_pos e, e, zU_same, e1, zi_nI, Int.toNat_of_nonneg (by omega)]
          · rw [if_neg e, zU_off (fun z => e z.2)]; exact (g1.1.2.2 k (by omega)).2.1
        · show 1 ≤ (if k = q then x.toNat else tk k) ∧ (if k = q then x.toNat else tk k) ≤ 100
          by_cases e : k = q
          · rw [if_pos e]; omega
          · rw [if_neg e]; exact (g1.1.2.2 k (by omega)).2.2
        · rw [zU_ne (by decide), zU_ne (by decide), zU_ne (by decide), zU_same]
        · show _ = zi (if k = q then y else pt k)
          rw [zU_ne (by decide)]
          by_cases e : k = q
          · rw [if_pos e, e, zU_same]; exact e3
          · rw [if_neg e, zU_off (fun z => e z.2), zU_ne (by decide), zU_ne (by decide), zU_ne (by decide), zU_ne (by decide), zU_ne (by decide)]; exact (g2.2.2.1 k hk).1
        · show 0 ≤ (if k = q then y else pt k) ∧ (if k = q then y else pt k) ≤ 200
          by_cases e : k = q
          · rw [if_pos e]; exact e4
          · rw [if_neg e]; exact (g2.2.2.1 k hk).2
        · show _ = nI (if k = q then x.toNat else tk k)
          rw [zU_ne (by decide), zU_ne (by decide)]
          by_cases e : k = q
          · rw [if_pos e, e, zU_same, e1, zi_nI, Int.toNat_of_nonneg (by omega)]
          · rw [if_neg e, zU_off (fun z => e z.2), zU_ne (by decide), zU_ne (by decide), zU_ne (by decide), zU_ne (by decide)]; exact (g2.2.2.2 k (by omega)).1
        · show 1 ≤ (if k = q then x.toNat else tk k) ∧ (if k = q then x.toNat else tk k) ≤ 100
          by_cases e : k = q
          · rw [if_pos e]; omega
          · rw [if_neg e]; exact (g2.2.2.2 k (by omega)).2
        · rw [zU_ne (by decide), zU_ne (by decide), zU_ne (by decide), zU_off (by decide), zU_off (by decide), zU_ne (by decide), zU_ne (by decide)]; exact g3
        · rw [zU_off (by decide), zU_ne (by decide), zU_ne (by decide), zU_ne (by decide), zU_ne (by decide), zU_ne (by decide), zU_ne (by decide)]; exact g4
    · have hbad := h18 --B
      refine wx_iconst (v := (-1)) dX8_grit_21 (by decide) ?_
      refine wx_iret dX8_grit_22 rfl rfl (Or.inl rfl) ?_
      exact hK _ _ (fun K' h => s_X9_grit_bad (fun w => hbad w.2) (h mm (zIn_0 hI hb)))
theorem op_wets {d : Nat} {K : List Value → zS → Prop} {mm : zM} {sc : Nat → Int32} {ln b n : Nat} {a0 a1 : Int32} (hI : zIn sc ln n b mm) (hb : b < 1000) (hK : ∀ (x : Int32) (m1 : zM), zAgr sc ln (b + 1) (d + 80) mX9_wets [.ref 128, .int a0, .int a1] (.int x) m1 → K [.int x] (zG m1))  : wm (d + 80) mX8_wets [.ref 0, .int a0, .int a1] (zG mm) K := by
  obtain ⟨hn4, hn16, hb1000, hz0, hz1⟩ := hI.1
  obtain ⟨pt, tk, q, S, g1, g2, g3, g4, g5⟩ := hI.2.2.2.2.2.2.1
  have hq6 := g1.1.1
  refine wm_of2 (L0 := [some (.ref 0), some (.int a0), some (.int a1)]) zCm_X8_wets (Or.inl rfl) (Nat.le_of_ble_eq_true rfl) rfl ?_
  refine wx_iload_n (i := 1) dX8_wets_0 rfl rfl ?_
  refine wx_iconst (v := 1) dX8_wets_1 (by decide) ?_
  refine wx_sipush (v := 2000) dX8_wets_2 (by decide) ?_
  refine wx_S3 dX8_wets_5 zPS_X8_within zLk_X8_73 (Nat.le_of_ble_eq_true rfl) (Or.inr rfl) ?_
  refine s_X8_within _ _ _ ?_
  refine wx_r1 ?_
  refine wx_eqb (tgt := 28) dX8_wets_8 (by decide) (fun h8 => ?_) (fun h8 => ?_)
  · have hbad := h8 --A
    refine wx_iconst (v := (-1)) dX8_wets_28 (by decide) ?_
    refine wx_iret dX8_wets_29 rfl rfl (Or.inl rfl) ?_
    exact hK _ _ (fun K' h => s_X9_wets_bad (fun w => hbad w.1) (h mm (zIn_0 hI hb)))
  · skip
    refine wx_iload_n (i := 2) dX8_wets_11 rfl rfl ?_
    refine wx_iconst (v := (-1)) dX8_wets_12 (by decide) ?_
    refine wx_aload_n (i := 0) dX8_wets_13 rfl rfl ?_
    refine wx_getRG (k := 0) (t := 117) dX8_wets_14 zF_X8_65 zKo_0 rfl (Nat.le_of_ble_eq_true rfl) zRf_0_7 ?_
    refine wx_V0 dX8_wets_17 zPV_X2_howMany zLk_X8_212 rfl (Nat.le_of_ble_eq_true rfl) (Nat.le_of_ble_eq_true rfl) (Or.inr rfl) ?_
    refine s_X2_howMany ?_
    refine wx_r1 ?_
    refine wx_iconst (v := 1) dX8_wets_20 (by decide) ?_
    refine wx_isub dX8_wets_21 ?_
    refine wx_S3 dX8_wets_22 zPS_X8_within zLk_X8_73 (Nat.le_of_ble_eq_true rfl) (Or.inr rfl) ?_
    refine s_X8_within _ _ _ ?_
    refine wx_r1 ?_
    refine wx_neb (tgt := 30) dX8_wets_25 (by decide) (fun h25 => ?_) (fun h25 => ?_)
    · obtain ⟨D, e1, e2⟩ := zNat (m := 2000) (by omega) (show 0 ≤ a0 ∧ a0 ≤ zi 2000 from ⟨Int32.le_trans (by decide) h8.1, h8.2⟩)
      have hD1 : 1 ≤ D := by
        have := h8.1
        rw [e1, show (1 : Int32) = nI 1 from rfl, nI_leI (by omega) (by omega)] at this
        exact this
      subst e1
      refine wx_iload_n (i := 2) dX8_wets_30 rfl rfl ?_
      refine wx_iconst (v := (-1)) dX8_wets_31 (by decide) ?_
      refine wx_icmp_ne (tgt := 46) dX8_wets_32 (by decide) (fun h32 => ?_) (fun h32 => ?_)
      · obtain ⟨y, e3, e4, e5⟩ := zInt (v := a1) (a := -1) (c := (q : Int) - 1) (by omega) (by omega) (by
          have := h25
          rw [g1.1.2.1, zl_1, zi_nI, zi_sub] at this
          exact this)
        have hy : y ≠ -1 := fun w => h32 (by rw [e3, w]; rfl)
        have e6 : a1 = zi (((y.toNat + 1 : Nat) : Int) - 1) := by rw [e3]; exact congrArg zi (by omega)
        subst e6 --OF
        refine wx_aload_n (i := 0) dX8_wets_46 rfl rfl ?_
        refine wx_getRG (k := 0) (t := 117) dX8_wets_47 zF_X8_65 zKo_0 rfl (Nat.le_of_ble_eq_true rfl) zRf_0_7 ?_
        refine wx_iload_n (i := 1) dX8_wets_50 rfl rfl ?_
        refine wx_iload_n (i := 2) dX8_wets_51 rfl rfl ?_
        refine wx_V2 dX8_wets_52 zPV_X2_wetsOf zLk_X8_222 rfl (Nat.le_of_ble_eq_true rfl) (Nat.le_of_ble_eq_true rfl) (Or.inr rfl) ?_
        rw [zi_nI D]
        refine s_X2_wetsOf (j := y.toNat + 1) g1 g3 g5 ⟨by omega, by omega⟩ (by omega) (by omega) (fun m1 f1 f3 => ?_)
        refine wx_r1 ?_
        refine wx_iret dX8_wets_55 rfl rfl (Or.inl rfl) ?_
        have hM2 : zMg pt tk q m1 := ⟨g2.1, by rw [f1 128 21 (by omega) (by omega)]; exact g2.2.1, fun k hk => by rw [f1 143 k (by omega) (by omega)]; exact g2.2.2.1 k hk, fun k hk => by rw [f1 142 k (by omega) (by omega)]; exact g2.2.2.2 k hk⟩
        have hfin : ∀ m2 : zM, (∀ c, c ≠ 153 → m2 c = m1 c) → zInv sc ln (b + 1) m2 := fun m2 f2 => zIn_G hI hb (fun c j w => by rw [f2 c (by omega), f1 c j (by omega) (by omega)]) ⟨pt, tk, q, S, zGI_fr f3 (fun c j w _ => by rw [f2 c (by omega)]), zMg_fr hM2 f2, by rw [f2 117 (by decide), f1 117 4 (by omega) (by omega)]; exact g3, by rw [f2 128 (by decide), f1 128 24 (by omega) (by omega)]; exact g4, g5⟩
        refine hK _ _ (fun K' h => ?_)
        exact s_X9_wets_ok (d := d + 77) (D := D) (j := y.toNat + 1) (K := K') hM2 (by rw [f1 128 24 (by omega) (by omega)]; exact g4) g5 ⟨by omega, by omega⟩ (by omega) h8 (by rw [f1 128 21 (by omega) (by omega), g2.2.1]; rw [g1.1.2.1] at h25; exact h25) (fun m2 f2 => h m2 (hfin m2 f2))
      · skip --FEW
        refine wx_aload_n (i := 0) dX8_wets_35 rfl rfl ?_
        refine wx_getRG (k := 0) (t := 117) dX8_wets_36 zF_X8_65 zKo_0 rfl (Nat.le_of_ble_eq_true rfl) zRf_0_7 ?_
        refine wx_iload_n (i := 1) dX8_wets_39 rfl rfl ?_
        refine wx_V1 dX8_wets_40 zPV_X2_fewestFor zLk_X8_219 rfl (Nat.le_of_ble_eq_true rfl) (Nat.le_of_ble_eq_true rfl) (Or.inr rfl) ?_
        rw [zi_nI D]
        refine s_X2_fewestFor g1 g3 (by omega) (show 1 ≤ (D : Int) ∧ (D : Int) ≤ 2000 by omega) (fun m1 R f1 f3 f4 => ?_)
        refine wx_r1 ?_
        refine wx_goto (tgt := 55) dX8_wets_43 (by decide) ?_
        refine wx_iret dX8_wets_55 rfl rfl (Or.inl rfl) ?_
        have hM2 : zMg pt tk q m1 := ⟨g2.1, by rw [f1 128 21 (by omega) (by omega)]; exact g2.2.1, fun k hk => by rw [f1 143 k (by omega) (by omega)]; exact g2.2.2.1 k hk, fun k hk => by rw [f1 142 k (by omega) (by omega)]; exact g2.2.2.2 k hk⟩
        have hfin : ∀ m2 : zM, (∀ c, c ≠ 153 → m2 c = m1 c) → zInv sc ln (b + 1) m2 := fun m2 f2 => zIn_G hI hb (fun c j w => by rw [f2 c (by omega), f1 c j (by omega) (by omega)]) ⟨pt, tk, q, S, zGI_fr f3 (fun c j w _ => by rw [f2 c (by omega)]), zMg_fr hM2 f2, by rw [f2 117 (by decide), f1 117 4 (by omega) (by omega)]; exact g3, by rw [f2 128 (by decide), f1 128 24 (by omega) (by omega)]; exact g4, g5⟩
        have hRr : ∀ u, u ≤ q → zGr pt tk q R u := fun u hu => (f4 u (by omega) hu).1
        rw [zAns_eq hq6 hRr (by omega)]
        refine hK _ _ (fun K' h => ?_)
        have h9 := s_X9_wets_ok (d := d + 77) (D := D) (j := 0) (K := K') hM2 (by rw [f1 128 24 (by omega) (by omega)]; exact g4) g5 ⟨by omega, by omega⟩ (Nat.zero_le q) h8 (by rw [f1 128 21 (by omega) (by omega), g2.2.1]; rw [h32, g1.1.2.1] at h25; exact h25) (fun m2 f2 => h m2 (hfin m2 f2))
        rw [h32]
        exact h9
    · have hbad := h25 --B
      refine wx_iconst (v := (-1)) dX8_wets_28 (by decide) ?_
      refine wx_iret dX8_wets_29 rfl rfl (Or.inl rfl) ?_
      exact hK _ _ (fun K' h => s_X9_wets_bad (fun w => hbad (by rw [g1.1.2.1, ← g2.2.1]; exact w.2)) (h mm (zIn_0 hI hb)))
