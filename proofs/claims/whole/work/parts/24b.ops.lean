/-! calls: aim, depth, shells, slack -/
theorem zNat {a : Int32} {m : Int} (hm : -1000000000 ≤ m ∧ m ≤ 1000000000) (h : 0 ≤ a ∧ a ≤ zi m) : ∃ z : Nat, a = nI z ∧ (z : Int) ≤ m := by
  have h1 := h.1
  have h2 := h.2
  rw [← zi_of a, zl_0, zi_le (by omega) (zrng a)] at h1
  rw [← zi_of a, zi_le (zrng a) (by omega)] at h2
  refine ⟨a.toInt.toNat, ?_, by omega⟩
  rw [zi_nI, Int.toNat_of_nonneg h1, zi_of]
theorem zInt {v : Int32} {a c : Int} (ha : -1000000000 ≤ a ∧ a ≤ 1000000000) (hc : -1000000000 ≤ c ∧ c ≤ 1000000000) (h : zi a ≤ v ∧ v ≤ zi c) : ∃ x : Int, v = zi x ∧ a ≤ x ∧ x ≤ c := by
  have h1 := h.1
  have h2 := h.2
  rw [← zi_of v, zi_le (by omega) (zrng v)] at h1
  rw [← zi_of v, zi_le (zrng v) (by omega)] at h2
  exact ⟨v.toInt, (zi_of v).symm, h1, h2⟩
theorem zDp_cg {r R A B : Int} {p q : Prop} [Decidable p] [Decidable q] (h : p ↔ q) : zDp r R A B p = zDp r R A B q := by
  unfold zDp
  by_cases w : p
  · rw [if_pos w, if_pos (h.mp w)]
  · rw [if_neg w, if_neg (fun z => w (h.mpr z))]
theorem op_aim {d : Nat} {K : List Value → zS → Prop} {mm : zM} {sc : Nat → Int32} {ln b n : Nat} {a0 a1 a2 : Int32} (hI : zIn sc ln n b mm) (hb : b < 1000) (hK : ∀ (x : Int32) (m1 : zM), zAgr sc ln (b + 1) (d + 80) mX9_aim [.ref 128, .int a0, .int a1, .int a2] (.int x) m1 → K [.int x] (zG m1))  : wm (d + 80) mX8_aim [.ref 0, .int a0, .int a1, .int a2] (zG mm) K := by
  obtain ⟨hn4, hn16, hb1000, hz0, hz1⟩ := hI.1
  refine wm_of2 (L0 := [some (.ref 0), some (.int a0), some (.int a1), some (.int a2)]) zCm_X8_aim (Or.inl rfl) (Nat.le_of_ble_eq_true rfl) rfl ?_
  refine wx_iload_n (i := 1) dX8_aim_0 rfl rfl ?_
  refine wx_bipush (v := 100) dX8_aim_1 (by decide) ?_
  refine wx_sipush (v := 5000) dX8_aim_3 (by decide) ?_
  refine wx_S3 dX8_aim_6 zPS_X8_within zLk_X8_73 (Nat.le_of_ble_eq_true rfl) (Or.inr rfl) ?_
  refine s_X8_within _ _ _ ?_
  refine wx_r1 ?_
  refine wx_eqb (tgt := 33) dX8_aim_9 (by decide) (fun h9 => ?_) (fun h9 => ?_)
  · have hbad := h9 --A
    refine wx_iconst (v := (-1)) dX8_aim_33 (by decide) ?_
    refine wx_iret dX8_aim_34 rfl rfl (Or.inl rfl) ?_
    exact hK _ _ (fun K' h => s_X9_aim_bad (fun w => hbad w.1) (h mm (zIn_0 hI hb)))
  · skip
    refine wx_iload_n (i := 2) dX8_aim_12 rfl rfl ?_
    refine wx_bipush (v := (-30)) dX8_aim_13 (by decide) ?_
    refine wx_bipush (v := 30) dX8_aim_15 (by decide) ?_
    refine wx_S3 dX8_aim_17 zPS_X8_within zLk_X8_73 (Nat.le_of_ble_eq_true rfl) (Or.inr rfl) ?_
    refine s_X8_within _ _ _ ?_
    refine wx_r1 ?_
    refine wx_eqb (tgt := 33) dX8_aim_20 (by decide) (fun h20 => ?_) (fun h20 => ?_)
    · have hbad := h20 --B
      refine wx_iconst (v := (-1)) dX8_aim_33 (by decide) ?_
      refine wx_iret dX8_aim_34 rfl rfl (Or.inl rfl) ?_
      exact hK _ _ (fun K' h => s_X9_aim_bad (fun w => hbad w.2.1) (h mm (zIn_0 hI hb)))
    · skip
      refine wx_iload_n (i := 3) dX8_aim_23 rfl rfl ?_
      refine wx_iconst (v := 1) dX8_aim_24 (by decide) ?_
      refine wx_bipush (v := 10) dX8_aim_25 (by decide) ?_
      refine wx_S3 dX8_aim_27 zPS_X8_within zLk_X8_73 (Nat.le_of_ble_eq_true rfl) (Or.inr rfl) ?_
      refine s_X8_within _ _ _ ?_
      refine wx_r1 ?_
      refine wx_neb (tgt := 35) dX8_aim_30 (by decide) (fun h30 => ?_) (fun h30 => ?_)
      · --OK
        refine wx_aload_n (i := 0) dX8_aim_35 rfl rfl ?_
        refine wx_getRG (k := 0) (t := 1) dX8_aim_36 zF_X8_12 zKo_0 rfl (Nat.le_of_ble_eq_true rfl) zRf_0_0 ?_
        refine wx_iload_n (i := 1) dX8_aim_39 rfl rfl ?_
        refine wx_iload_n (i := 2) dX8_aim_40 rfl rfl ?_
        refine wx_iload_n (i := 3) dX8_aim_41 rfl rfl ?_
        refine wx_V3 dX8_aim_42 zPV_X1_become zLk_X8_85 rfl (Nat.le_of_ble_eq_true rfl) (Nat.le_of_ble_eq_true rfl) (Or.inr rfl) ?_
        refine s_X1_become ?_
        refine wx_r0 ?_
        refine wx_iconst (v := 0) dX8_aim_45 (by decide) ?_
        refine wx_iret dX8_aim_46 rfl rfl (Or.inl rfl) ?_
        obtain ⟨R, e1, r1⟩ := zInt (a := 100) (c := 5000) (by omega) (by omega) h9
        obtain ⟨A, e2, r2⟩ := zInt (a := -30) (c := 30) (by omega) (by omega) h20
        obtain ⟨B, e3, r3⟩ := zInt (a := 1) (c := 10) (by omega) (by omega) h30
        refine hK _ _ (fun K' h => s_X9_aim_ok h9 h20 h30 (h _ (zIn_C hI hb (fun c j w => ?_) ⟨R, A, B, r1, r2, r3, ⟨?_, ?_, ?_⟩, ?_, ?_, ?_⟩)))
        · rw [zU_off (by omega), zU_off (by omega), zU_off (by omega), zU_ne (by omega), zU_ne (by omega), zU_ne (by omega)]
        · rw [zU_ne (by decide), zU_ne (by decide), zU_ne (by decide), zU_off (by decide), zU_off (by decide), zU_same]; exact e1
        · rw [zU_ne (by decide), zU_ne (by decide), zU_ne (by decide), zU_off (by decide), zU_same]; exact e2
        · rw [zU_ne (by decide), zU_ne (by decide), zU_ne (by decide), zU_same]; exact e3
        · rw [zU_off (by decide), zU_off (by decide), zU_same]; exact e1
        · rw [zU_off (by decide), zU_same]; exact e2
        · rw [zU_same]; exact e3
      · have hbad := h30 --C
        refine wx_iconst (v := (-1)) dX8_aim_33 (by decide) ?_
        refine wx_iret dX8_aim_34 rfl rfl (Or.inl rfl) ?_
        exact hK _ _ (fun K' h => s_X9_aim_bad (fun w => hbad w.2.2) (h mm (zIn_0 hI hb)))
theorem op_depth {d : Nat} {K : List Value → zS → Prop} {mm : zM} {sc : Nat → Int32} {ln b n : Nat} {a0 a1 : Int32} (hI : zIn sc ln n b mm) (hb : b < 1000) (hK : ∀ (x : Int64) (m1 : zM), zAgr sc ln (b + 1) (d + 80) mX9_depth [.ref 128, .int a0, .int a1] (.long x) m1 → K [.long x] (zG m1))  : wm (d + 80) mX8_depth [.ref 0, .int a0, .int a1] (zG mm) K := by
  obtain ⟨hn4, hn16, hb1000, hz0, hz1⟩ := hI.1
  refine wm_of2 (L0 := [some (.ref 0), some (.int a0), some (.int a1)]) zCm_X8_depth (Or.inl rfl) (Nat.le_of_ble_eq_true rfl) rfl ?_
  refine wx_iload_n (i := 1) dX8_depth_0 rfl rfl ?_
  refine wx_iconst (v := 0) dX8_depth_1 (by decide) ?_
  refine wx_sipush (v := 200) dX8_depth_2 (by decide) ?_
  refine wx_S3 dX8_depth_5 zPS_X8_within zLk_X8_73 (Nat.le_of_ble_eq_true rfl) (Or.inr rfl) ?_
  refine s_X8_within _ _ _ ?_
  refine wx_r1 ?_
  refine wx_eqb (tgt := 20) dX8_depth_8 (by decide) (fun h8 => ?_) (fun h8 => ?_)
  · have hbad := h8 --A
    refine wx_ldc2 dX8_depth_20 zKc_X8_89 ?_
    refine wx_lret dX8_depth_23 rfl (Or.inl rfl) ?_
    exact hK _ _ (fun K' h => s_X9_depth_bad (fun w => hbad w.1) (h mm (zIn_0 hI hb)))
  · skip
    refine wx_iload_n (i := 2) dX8_depth_11 rfl rfl ?_
    refine wx_iconst (v := 0) dX8_depth_12 (by decide) ?_
    refine wx_iconst (v := 1) dX8_depth_13 (by decide) ?_
    refine wx_S3 dX8_depth_14 zPS_X8_within zLk_X8_73 (Nat.le_of_ble_eq_true rfl) (Or.inr rfl) ?_
    refine s_X8_within _ _ _ ?_
    refine wx_r1 ?_
    refine wx_neb (tgt := 24) dX8_depth_17 (by decide) (fun h17 => ?_) (fun h17 => ?_)
    · obtain ⟨r, e0, r1⟩ := zInt (a := 0) (c := 200) (by omega) (by omega) h8
      subst e0
      obtain ⟨R, A, B, r2, r3, r4, ⟨k1, k2, k3⟩, k4, k5, k6⟩ := hI.2.2.2.2.2.2.2.1
      refine wx_aload_n (i := 0) dX8_depth_24 rfl rfl ?_
      refine wx_getRG (k := 0) (t := 1) dX8_depth_25 zF_X8_12 zKo_0 rfl (Nat.le_of_ble_eq_true rfl) zRf_0_0 ?_
      refine wx_iload_n (i := 1) dX8_depth_28 rfl rfl ?_
      refine wx_iload_n (i := 2) dX8_depth_29 rfl rfl ?_
      refine wx_if_ne (tgt := 37) dX8_depth_30 (by decide) (fun h30 => ?_) (fun h30 => ?_)
      · skip --N
        refine wx_iconst (v := 0) dX8_depth_37 (by decide) ?_
        refine wx_V2 dX8_depth_38 zPV_X1_depthAt zLk_X8_91 rfl (Nat.le_of_ble_eq_true rfl) (Nat.le_of_ble_eq_true rfl) (Or.inr rfl) ?_
        refine s_X1_depthAt k1 k2 k3 r1 r2 r3 r4 ?_
        refine wx_r1 ?_
        refine wx_lret dX8_depth_41 rfl (Or.inl rfl) ?_
        exact hK _ _ (fun K' h => s_X9_depth_ok k4 k5 k6 r1 r2 r3 r4 h8 h17 (by rw [← zDp_cg (show (¬ (0 : Int32) = 0) ↔ a1 = 0 from ⟨fun w => absurd rfl w, fun w => absurd w h30⟩)]; exact h mm (zIn_0 hI hb)))
      · skip --Y
        refine wx_iconst (v := 1) dX8_depth_33 (by decide) ?_
        refine wx_goto (tgt := 38) dX8_depth_34 (by decide) ?_
        refine wx_V2 dX8_depth_38 zPV_X1_depthAt zLk_X8_91 rfl (Nat.le_of_ble_eq_true rfl) (Nat.le_of_ble_eq_true rfl) (Or.inr rfl) ?_
        refine s_X1_depthAt k1 k2 k3 r1 r2 r3 r4 ?_
        refine wx_r1 ?_
        refine wx_lret dX8_depth_41 rfl (Or.inl rfl) ?_
        exact hK _ _ (fun K' h => s_X9_depth_ok k4 k5 k6 r1 r2 r3 r4 h8 h17 (by rw [← zDp_cg (show (¬ (1 : Int32) = 0) ↔ a1 = 0 from ⟨fun _ => h30, fun _ => by decide⟩)]; exact h mm (zIn_0 hI hb)))
    · have hbad := h17 --B
      refine wx_ldc2 dX8_depth_20 zKc_X8_89 ?_
      refine wx_lret dX8_depth_23 rfl (Or.inl rfl) ?_
      exact hK _ _ (fun K' h => s_X9_depth_bad (fun w => hbad w.2) (h mm (zIn_0 hI hb)))
theorem op_slack {d : Nat} {K : List Value → zS → Prop} {mm : zM} {sc : Nat → Int32} {ln b n : Nat} {a0 : Int32} (hI : zIn sc ln n b mm) (hb : b < 1000) (hK : ∀ (x : Int32) (m1 : zM), zAgr sc ln (b + 1) (d + 80) mX9_slack [.ref 128, .int a0] (.int x) m1 → K [.int x] (zG m1))  : wm (d + 80) mX8_slack [.ref 0, .int a0] (zG mm) K := by
  obtain ⟨hn4, hn16, hb1000, hz0, hz1⟩ := hI.1
  refine wm_of2 (L0 := [some (.ref 0), some (.int a0)]) zCm_X8_slack (Or.inl rfl) (Nat.le_of_ble_eq_true rfl) rfl ?_
  refine wx_iload_n (i := 1) dX8_slack_0 rfl rfl ?_
  refine wx_iconst (v := 0) dX8_slack_1 (by decide) ?_
  refine wx_bipush (v := 100) dX8_slack_2 (by decide) ?_
  refine wx_S3 dX8_slack_4 zPS_X8_within zLk_X8_73 (Nat.le_of_ble_eq_true rfl) (Or.inr rfl) ?_
  refine s_X8_within _ _ _ ?_
  refine wx_r1 ?_
  refine wx_eqb (tgt := 21) dX8_slack_7 (by decide) (fun h7 => ?_) (fun h7 => ?_)
  · have hbad := h7 --A
    refine wx_iconst (v := (-1)) dX8_slack_21 (by decide) ?_
    refine wx_iret dX8_slack_22 rfl rfl (Or.inl rfl) ?_
    exact hK _ _ (fun K' h => s_X9_slack_bad hbad (h mm (zIn_0 hI hb)))
  · skip --OK
    refine wx_aload_n (i := 0) dX8_slack_10 rfl rfl ?_
    refine wx_getRG (k := 0) (t := 117) dX8_slack_11 zF_X8_65 zKo_0 rfl (Nat.le_of_ble_eq_true rfl) zRf_0_7 ?_
    refine wx_iload_n (i := 1) dX8_slack_14 rfl rfl ?_
    refine wx_V1 dX8_slack_15 zPV_X2_tellSlack zLk_X8_216 rfl (Nat.le_of_ble_eq_true rfl) (Nat.le_of_ble_eq_true rfl) (Or.inr rfl) ?_
    refine s_X2_tellSlack ?_
    refine wx_r1 ?_
    refine wx_goto (tgt := 22) dX8_slack_18 (by decide) ?_
    refine wx_iret dX8_slack_22 rfl rfl (Or.inl rfl) ?_
    obtain ⟨pt, tk, q, S, g1, g2, g3, g4, g5⟩ := hI.2.2.2.2.2.2.1
    obtain ⟨S2, e1, e2⟩ := zNat (m := 100) (by omega) h7
    refine hK _ _ (fun K' h => s_X9_slack_ok h7 ?_)
    rw [zU_ne (by decide), g4, zi_nI, ← g3]
    refine h _ (zIn_G hI hb (fun c j w => ?_) ⟨pt, tk, q, S2, ⟨zGc_of g1.1 ?_ ?_ ?_, ?_⟩, ⟨g2.1, ?_, fun k hk => ?_, fun k hk => ?_⟩, ?_, ?_, by omega⟩)
    · rw [zU_off (by omega), zU_ne (by omega)]
    · rw [zU_ne (by decide), zU_off (by decide)]
    · rw [zU_ne (by decide), zU_ne (by decide)]
    · rw [zU_ne (by decide), zU_ne (by decide)]
    · rcases g1.2 with w | ⟨R, w⟩
      · exact Or.inl (by rw [zU_ne (by decide), zU_off (by decide)]; exact w)
      · have hq6 := g1.1.1
        exact Or.inr ⟨R, fun u u1 u2 => ⟨(w u u1 u2).1, fun x hx => by rw [zU_ne (by omega), zU_ne (by omega)]; exact (w u u1 u2).2 x hx⟩⟩
    · rw [zU_off (by decide), zU_ne (by decide)]; exact g2.2.1
    · rw [zU_ne (by decide), zU_ne (by decide)]; exact g2.2.2.1 k hk
    · rw [zU_ne (by decide), zU_ne (by decide)]; exact g2.2.2.2 k hk
    · rw [zU_ne (by decide), zU_same, e1, zi_nI]
    · rw [zU_same, e1]
theorem op_lie {d : Nat} {K : List Value → zS → Prop} {mm : zM} {sc : Nat → Int32} {ln b n : Nat} {a0 : Int32} (hI : zIn sc ln n b mm) (hb : b < 1000) (hK : ∀ (x : Int32) (m1 : zM), zAgr sc ln (b + 1) (d + 80) mX9_lie [.ref 128, .int a0] (.int x) m1 → K [.int x] (zG m1))  : wm (d + 80) mX8_lie [.ref 0, .int a0] (zG mm) K := by
  obtain ⟨hn4, hn16, hb1000, hz0, hz1⟩ := hI.1
  refine wm_of2 (L0 := [some (.ref 0), some (.int a0)]) zCm_X8_lie (Or.inl rfl) (Nat.le_of_ble_eq_true rfl) rfl ?_
  refine wx_iload_n (i := 1) dX8_lie_0 rfl rfl ?_
  refine wx_iconst (v := 0) dX8_lie_1 (by decide) ?_
  refine wx_bipush (v := 50) dX8_lie_2 (by decide) ?_
  refine wx_S3 dX8_lie_4 zPS_X8_within zLk_X8_73 (Nat.le_of_ble_eq_true rfl) (Or.inr rfl) ?_
  refine s_X8_within _ _ _ ?_
  refine wx_r1 ?_
  refine wx_eqb (tgt := 21) dX8_lie_7 (by decide) (fun h7 => ?_) (fun h7 => ?_)
  · have hbad := h7 --A
    refine wx_iconst (v := (-1)) dX8_lie_21 (by decide) ?_
    refine wx_iret dX8_lie_22 rfl rfl (Or.inl rfl) ?_
    exact hK _ _ (fun K' h => s_X9_lie_bad hbad (h mm (zIn_0 hI hb)))
  · skip --OK
    refine wx_aload_n (i := 0) dX8_lie_10 rfl rfl ?_
    refine wx_getRG (k := 0) (t := 2) dX8_lie_11 zF_X8_19 zKo_0 rfl (Nat.le_of_ble_eq_true rfl) zRf_0_1 ?_
    refine wx_iload_n (i := 1) dX8_lie_14 rfl rfl ?_
    refine wx_V1 dX8_lie_15 zPV_X3_tellLie zLk_X8_117 rfl (Nat.le_of_ble_eq_true rfl) (Nat.le_of_ble_eq_true rfl) (Or.inr rfl) ?_
    refine s_X3_tellLie ?_
    refine wx_r1 ?_
    refine wx_goto (tgt := 22) dX8_lie_18 (by decide) ?_
    refine wx_iret dX8_lie_22 rfl rfl (Or.inl rfl) ?_
    obtain ⟨g, L, ⟨k1, k2, k3, k4⟩, k5, k6⟩ := hI.2.1
    obtain ⟨x, e1, e2⟩ := zInt (a := 0) (c := 50) (by omega) (by omega) h7
    refine hK _ _ (fun K' h => s_X9_lie_ok h7 ?_)
    rw [zU_ne (by decide), zU_ne (by decide), k5.2.1, ← k2.2.1]
    refine h _ (zIn_K hI hb (fun c j w => ?_) ⟨g, x, ⟨⟨k1.1, e2, k1.2.2⟩, ⟨fun t i u1 u2 => ?_, ?_, ?_⟩, ?_, Or.inl ?_⟩, ⟨fun t i u1 u2 => ?_, ?_, ?_⟩, k6⟩)
    · rw [zU_off (by omega), zU_off (by omega), zU_off (by omega)]
    · rw [zU_ne (by omega), zU_ne (by omega), zU_ne (by omega)]; exact k2.1 t i u1 u2
    · rw [zU_ne (by decide), zU_off (by decide), zU_same]; exact e1
    · rw [zU_ne (by decide), zU_off (by decide), zU_off (by decide)]; exact k2.2.2
    · rw [zU_ne (by decide), zU_ne (by decide), zU_ne (by decide)]; exact k3
    · rw [zU_ne (by decide), zU_same]
    · rw [zU_ne (by omega), zU_ne (by omega), zU_ne (by omega)]; exact k5.1 t i u1 u2
    · rw [zU_same]; exact e1
    · rw [zU_off (by decide), zU_ne (by decide), zU_ne (by decide)]; exact k5.2.2
