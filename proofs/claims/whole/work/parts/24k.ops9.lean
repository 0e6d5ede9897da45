/-! calls: count, disc -/
theorem zFl_in {mm : zM} {k n i : Nat} {v : Int32} (h : i < n) : zFl mm k n v k i = v := by
  unfold zFl va_up
  rw [if_pos rfl]
  exact if_pos h
theorem zTo_row {f : Nat → Int32} {g : Nat → Nat → Int} (hb : ∀ t i, g t i = 5000 ∨ (-1000 ≤ g t i ∧ g t i ≤ 1000)) (hf : ∀ t i, t < 3 → i < 15 → f (15 * t + i) = zi (g t i)) {t : Nat} (ht : t < 3) (h0 : zTo f (15 * t) = zi (zT3 g t)) : ∀ i, i ≤ 15 → zTo f (15 * t + i) = zi (zT3 g t + zTl (g t) i)
  | 0, _ => by
    show zTo f (15 * t) = zi (zT3 g t + 0)
    rw [Int.add_zero]; exact h0
  | i + 1, hi => by
    show zTo f (15 * t + i) + (if f (15 * t + i) = 5000 then 0 else 1) = zi (zT3 g t + (zTl (g t) i + (if g t i = 5000 then 0 else 1)))
    have hbb := hb t i
    rw [zTo_row hb hf ht h0 i (by omega), hf t i ht (by omega)]
    by_cases q : g t i = 5000
    · rw [if_pos q, if_pos (show zi (g t i) = 5000 by rw [q]; rfl), zl_0, zi_add]
      exact congrArg zi (by omega)
    · rw [if_neg q, if_neg (show ¬ zi (g t i) = 5000 by rw [zl_5000, zi_eq (by omega) (by omega)]; exact q), zl_1, zi_add]
      exact congrArg zi (by omega)
theorem zTo_3 {f : Nat → Int32} {g : Nat → Nat → Int} (hb : ∀ t i, g t i = 5000 ∨ (-1000 ≤ g t i ∧ g t i ≤ 1000)) (hf : ∀ t i, t < 3 → i < 15 → f (15 * t + i) = zi (g t i)) : zi (zT3 g 3) = zTo f 45 := by
  have h1 := zTo_row hb hf (t := 0) (by omega) rfl 15 (Nat.le_refl _)
  have h2 := zTo_row hb hf (t := 1) (by omega) h1 15 (Nat.le_refl _)
  have h3 := zTo_row hb hf (t := 2) (by omega) h2 15 (Nat.le_refl _)
  exact h3.symm
theorem op_count {d : Nat} {K : List Value → zS → Prop} {mm : zM} {sc : Nat → Int32} {ln b n : Nat} {a : Int32} (hI : zIn sc ln n b mm) (hb : b < 1000) (hK : ∀ (x : Int32) (m1 : zM), zAgr sc ln (b + 1) (d + 80) mX9_count [.ref 128, .int a] (.int x) m1 → K [.int x] (zG m1))  : wm (d + 80) mX8_count [.ref 0, .int a] (zG mm) K := by
  obtain ⟨hn4, hn16, hb1000, hz0, hz1⟩ := hI.1
  obtain ⟨⟨k, hB⟩, hP⟩ := hI.2.2.2.1
  have hk60 := hB.2.2.2.2.2.2.1
  have hks := hB.2.2.2.2.1
  have hksM := hB.2.2.2.2.2.1
  obtain ⟨g, L, kI, kM, kG⟩ := hI.2.1
  obtain ⟨wi, wj, wv, q, wO, wC, wM⟩ := hI.2.2.1
  obtain ⟨pt, tk, qg, S, g1, g2, g3, g4, g5⟩ := hI.2.2.2.2.2.2.1
  refine wm_of2 (L0 := [some (.ref 0), some (.int a)]) zCm_X8_count (Or.inl rfl) (Nat.le_of_ble_eq_true rfl) rfl ?_
  refine wx_iload_n (i := 1) dX8_count_0 rfl rfl ?_
  rcases zSix a with rfl | rfl | rfl | rfl | rfl | rfl | hq
  · refine wx_tableIn (off := 39) (tgt := 40) dX8_count_1 (by decide) (by decide) (by decide) (by decide) ?_
    refine wx_aload_n (i := 0) dX8_count_40 rfl rfl ?_
    refine wx_getIG (k := 0) dX8_count_41 zF_X8_69 zKo_0 rfl (Nat.le_of_ble_eq_true rfl) ?_
    refine wx_iret dX8_count_44 rfl rfl (Or.inl rfl) ?_
    refine hK _ _ (fun K' h => s_X9_count hksM hk60 (zki (h mm (zIn_0 hI hb)) ?_))
    show _ = mm 128 0
    rw [hz0]; exact hz1.symm
  · refine wx_tableIn (off := 44) (tgt := 45) dX8_count_1 (by decide) (by decide) (by decide) (by decide) ?_
    refine wx_aload_n (i := 0) dX8_count_45 rfl rfl ?_
    refine wx_getRG (k := 0) (t := 2) dX8_count_46 zF_X8_19 zKo_0 rfl (Nat.le_of_ble_eq_true rfl) zRf_0_1 ?_
    refine wx_V0 dX8_count_49 zPV_X3_howManyTold zLk_X8_225 rfl (Nat.le_of_ble_eq_true rfl) (Nat.le_of_ble_eq_true rfl) (Or.inr rfl) ?_
    refine s_X3_howManyTold kI.1 kI.2.1 ?_
    refine wx_r1 ?_
    refine wx_iret dX8_count_52 rfl rfl (Or.inl rfl) ?_
    refine hK _ _ (fun K' h => s_X9_count hksM hk60 (zki (h mm (zIn_0 hI hb)) ?_))
    show _ = zTo (mm 131) 45
    exact zTo_3 kI.1.1 kM.1
  · refine wx_tableIn (off := 52) (tgt := 53) dX8_count_1 (by decide) (by decide) (by decide) (by decide) ?_
    refine wx_aload_n (i := 0) dX8_count_53 rfl rfl ?_
    refine wx_getRG (k := 0) (t := 13) dX8_count_54 zF_X8_28 zKo_0 rfl (Nat.le_of_ble_eq_true rfl) zRf_0_2 ?_
    refine wx_V0 dX8_count_57 zPV_X7_howMany zLk_X8_134 rfl (Nat.le_of_ble_eq_true rfl) (Nat.le_of_ble_eq_true rfl) (Or.inr rfl) ?_
    refine s_X7_howMany ?_
    refine wx_r1 ?_
    refine wx_iret dX8_count_60 rfl rfl (Or.inl rfl) ?_
    refine hK _ _ (fun K' h => s_X9_count hksM hk60 (zki (h mm (zIn_0 hI hb)) ?_))
    show _ = mm 128 8
    rw [wC.1]; exact wM.1.symm
  · refine wx_tableIn (off := 60) (tgt := 61) dX8_count_1 (by decide) (by decide) (by decide) (by decide) ?_
    refine wx_aload_n (i := 0) dX8_count_61 rfl rfl ?_
    refine wx_getRG (k := 0) (t := 17) dX8_count_62 zF_X8_35 zKo_0 rfl (Nat.le_of_ble_eq_true rfl) zRf_0_3 ?_
    refine wx_V0 dX8_count_65 zPV_X0_howMany zLk_X8_166 rfl (Nat.le_of_ble_eq_true rfl) (Nat.le_of_ble_eq_true rfl) (Or.inr rfl) ?_
    refine s_X0_howMany ?_
    refine wx_r1 ?_
    refine wx_iret dX8_count_68 rfl rfl (Or.inl rfl) ?_
    refine hK _ _ (fun K' h => s_X9_count hksM hk60 (zki (h mm (zIn_0 hI hb)) ?_))
    show _ = mm 128 14
    rw [hks]; exact hksM.symm
  · refine wx_tableIn (off := 68) (tgt := 69) dX8_count_1 (by decide) (by decide) (by decide) (by decide) ?_
    refine wx_aload_n (i := 0) dX8_count_69 rfl rfl ?_
    refine wx_getRG (k := 0) (t := 17) dX8_count_70 zF_X8_35 zKo_0 rfl (Nat.le_of_ble_eq_true rfl) zRf_0_3 ?_
    refine wx_V0 dX8_count_73 zPV_X0_minutesTogether zLk_X8_228 rfl (Nat.le_of_ble_eq_true rfl) (Nat.le_of_ble_eq_true rfl) (Or.inr rfl) ?_
    refine s_X0_minutesTogether hks hk60 ?_
    refine wx_r1 ?_
    refine wx_iret dX8_count_76 rfl rfl (Or.inl rfl) ?_
    refine hK _ _ (fun K' h => s_X9_count hksM hk60 (zki (h mm (zIn_0 hI hb)) ?_))
    show _ = zMs (mm 138) k
    exact zMs_cg (fun j hj => (hB.2.2.2.2.2.2.2 j hj).2.2.1)
  · refine wx_tableIn (off := 76) (tgt := 77) dX8_count_1 (by decide) (by decide) (by decide) (by decide) ?_
    refine wx_aload_n (i := 0) dX8_count_77 rfl rfl ?_
    refine wx_getRG (k := 0) (t := 117) dX8_count_78 zF_X8_65 zKo_0 rfl (Nat.le_of_ble_eq_true rfl) zRf_0_7 ?_
    refine wx_V0 dX8_count_81 zPV_X2_howMany zLk_X8_212 rfl (Nat.le_of_ble_eq_true rfl) (Nat.le_of_ble_eq_true rfl) (Or.inr rfl) ?_
    refine s_X2_howMany ?_
    refine wx_r1 ?_
    refine wx_iret dX8_count_84 rfl rfl (Or.inl rfl) ?_
    refine hK _ _ (fun K' h => s_X9_count hksM hk60 (zki (h mm (zIn_0 hI hb)) ?_))
    show _ = mm 128 21
    rw [g1.1.2.1]; exact g2.2.1.symm
  · refine wx_tableOut (tgt := 85) dX8_count_1 hq (by decide) ?_
    obtain ⟨q0, q1, q2, q3, q4, q5⟩ := zSix_out hq
    refine wx_iconst (v := (-1)) dX8_count_85 (by decide) ?_
    refine wx_iret dX8_count_86 rfl rfl (Or.inl rfl) ?_
    refine hK _ _ (fun K' h => s_X9_count hksM hk60 (zki (h mm (zIn_0 hI hb)) ?_))
    unfold zCtM
    rw [if_neg q0, if_neg q1, if_neg q2, if_neg q3, if_neg q4, if_neg q5]
theorem op_disc {d : Nat} {K : List Value → zS → Prop} {mm : zM} {sc : Nat → Int32} {ln b n : Nat} {a0 : Int32} (hI : zIn sc ln n b mm) (hb : b < 1000) (hK : ∀ (x : Int32) (m1 : zM), zAgr sc ln (b + 1) (d + 80) mX9_disc [.ref 128, .int a0] (.int x) m1 → K [.int x] (zG m1))  : wm (d + 80) mX8_disc [.ref 0, .int a0] (zG mm) K := by
  obtain ⟨hn4, hn16, hb1000, hz0, hz1⟩ := hI.1
  obtain ⟨⟨k, hB⟩, hP⟩ := hI.2.2.2.1
  obtain ⟨g, L, kI, kM, kG⟩ := hI.2.1
  refine wm_of2 (L0 := [some (.ref 0), some (.int a0)]) zCm_X8_disc (Or.inl rfl) (Nat.le_of_ble_eq_true rfl) rfl ?_
  refine wx_iload_n (i := 1) dX8_disc_0 rfl rfl ?_
  refine wx_iconst (v := 4) dX8_disc_1 (by decide) ?_
  refine wx_bipush (v := 16) dX8_disc_2 (by decide) ?_
  refine wx_S3 dX8_disc_4 zPS_X8_within zLk_X8_73 (Nat.le_of_ble_eq_true rfl) (Or.inr rfl) ?_
  refine s_X8_within _ _ _ ?_
  refine wx_r1 ?_
  refine wx_neb (tgt := 12) dX8_disc_7 (by decide) (fun h7 => ?_) (fun h7 => ?_)
  · obtain ⟨q, e1, e1l⟩ := zNat (m := 16) (by omega) (show 0 ≤ a0 ∧ a0 ≤ zi 16 from ⟨Int32.le_trans (by decide) h7.1, h7.2⟩)
    have hq4 : 4 ≤ q := by
      have := h7.1
      rw [e1, show (4 : Int32) = nI 4 from rfl, nI_leI (by omega) (by omega)] at this
      exact this
    subst e1 --OK
    refine wx_aload_n (i := 0) dX8_disc_12 rfl rfl ?_
    refine wx_iload_n (i := 1) dX8_disc_13 rfl rfl ?_
    refine wx_putIG (k := 0) dX8_disc_14 zF_X8_69 zKo_0 rfl (Nat.le_of_ble_eq_true rfl) rfl rfl ?_
    refine wx_aload_n (i := 0) dX8_disc_17 rfl rfl ?_
    refine wx_getRG (k := 0) (t := 2) dX8_disc_18 zF_X8_19 zKo_0 rfl (Nat.le_of_ble_eq_true rfl) zRf_0_1 ?_
    refine wx_iload_n (i := 1) dX8_disc_21 rfl rfl ?_
    refine wx_V1 dX8_disc_22 zPV_X3_begin zLk_X8_77 rfl (Nat.le_of_ble_eq_true rfl) (Nat.le_of_ble_eq_true rfl) (Or.inr rfl) ?_
    refine s_X3_begin (rf := zRF) (by decide +kernel) (by decide +kernel) (fun m1 f1 f1a f1b f1c => ?_)
    refine wx_r0 ?_
    refine wx_aload_n (i := 0) dX8_disc_25 rfl rfl ?_
    refine wx_getRG (k := 0) (t := 13) dX8_disc_26 zF_X8_28 zKo_0 rfl (Nat.le_of_ble_eq_true rfl) zRf_0_2 ?_
    refine wx_V0 dX8_disc_29 zPV_X7_begin zLk_X8_81 rfl (Nat.le_of_ble_eq_true rfl) (Nat.le_of_ble_eq_true rfl) (Or.inr rfl) ?_
    refine s_X7_begin ?_
    refine wx_r0 ?_
    refine wx_aload_n (i := 0) dX8_disc_32 rfl rfl ?_
    refine wx_getRG (k := 0) (t := 17) dX8_disc_33 zF_X8_35 zKo_0 rfl (Nat.le_of_ble_eq_true rfl) zRf_0_3 ?_
    refine wx_iload_n (i := 1) dX8_disc_36 rfl rfl ?_
    refine wx_V1 dX8_disc_37 zPV_X0_begin zLk_X8_83 rfl (Nat.le_of_ble_eq_true rfl) (Nat.le_of_ble_eq_true rfl) (Or.inr rfl) ?_
    refine s_X0_begin _ ?_
    refine wx_r0 ?_
    refine wx_aload_n (i := 0) dX8_disc_40 rfl rfl ?_
    refine wx_getRG (k := 0) (t := 98) dX8_disc_41 zF_X8_51 zKo_0 rfl (Nat.le_of_ble_eq_true rfl) zRf_0_5 ?_
    refine wx_iload_n (i := 1) dX8_disc_44 rfl rfl ?_
    refine wx_V1 dX8_disc_45 zPV_X5_begin zLk_X8_84 rfl (Nat.le_of_ble_eq_true rfl) (Nat.le_of_ble_eq_true rfl) (Or.inr rfl) ?_
    obtain ⟨B, hBdef⟩ : ∃ B, B = zU (zU (va_up (zFl (zU (zU m1 13 4 0) 17 7 (nI q)) 18 16 0) 19 (va_cpy (zFl (zU (zU m1 13 4 0) 17 7 (nI q)) 18 16 0 18) ((zU m1 13 4 0) 19) 0 0 16)) 17 8 0) 17 10 ((zU m1 13 4 0) 17 10 + 1) := ⟨_, rfl⟩
    rw [← hBdef]
    refine s_X5_begin (fun m3 f3 f3a f3b f3c => ?_)
    refine wx_r0 ?_
    refine wx_iload_n (i := 1) dX8_disc_48 rfl rfl ?_
    refine wx_iret dX8_disc_49 rfl rfl (Or.inl rfl) ?_
    refine hK _ _ (fun K' h => s_X9_disc_ok h7 (h _ ⟨q, ?_⟩))
    have gl : ∀ c j, c < 128 → zBg m3 (nI q) c j = m3 c j := fun c j w => by
      unfold zBg
      rw [zU_ne (by omega), zU_ne (by omega), zFl_off (by omega), zFl_off (by omega), zFl_off (by omega), zFl_off (by omega), zU_ne (by omega)]
    have g0 : ∀ c j, ¬ (c = 129 ∨ c = 130 ∨ c = 131 ∨ c = 140 ∨ (c = 128 ∧ (j = 0 ∨ j = 8 ∨ j = 14))) → zBg m3 (nI q) c j = m3 c j := fun c j w => by
      unfold zBg
      rw [zU_off (by omega), zU_off (by omega), zFl_off (by omega), zFl_off (by omega), zFl_off (by omega), zFl_off (by omega), zU_off (by omega)]
    have gB : ∀ c j, ¬ (c = 17 ∨ c = 18 ∨ c = 19 ∨ c = 13) → B c j = m1 c j := fun c j w => by
      rw [hBdef, zU_ne (by omega), zU_ne (by omega), zV_ne (by omega), zFl_off (by omega), zU_ne (by omega), zU_ne (by omega)]
    have gA : ∀ c j, ¬ (c = 17 ∨ c = 18 ∨ c = 19 ∨ c = 13 ∨ (4 ≤ c ∧ c ≤ 6) ∨ (c = 2 ∧ (j = 8 ∨ j = 11)) ∨ (100 ≤ c ∧ c ≤ 106) ∨ (c = 98 ∧ (j = 4 ∨ j = 6)) ∨ c = 129 ∨ c = 130 ∨ c = 131 ∨ c = 140 ∨ (c = 128 ∧ (j = 0 ∨ j = 8 ∨ j = 14)) ∨ (c = 0 ∧ j = 8)) → zBg m3 (nI q) c j = mm c j := fun c j w => by
      rw [g0 c j (by omega), f3 c j (by omega) (by omega), gB c j (by omega), f1 c j (by omega) (by omega), zU_off (by omega)]
    have e128 : zBg m3 (nI q) 128 0 = nI q := by
      unfold zBg
      rw [zU_off (by decide), zU_off (by decide), zFl_off (by decide), zFl_off (by decide), zFl_off (by decide), zFl_off (by decide), zU_same]
    have hqq : q - 1 + 1 = q := by omega
    refine ⟨⟨by omega, by omega, by omega, ?_, e128⟩, ⟨fun _ _ => 5000, L, ⟨⟨fun _ _ => Or.inl rfl, kI.1.2.1, by omega, by omega⟩, ⟨fun t i a c => ?_, ?_, ?_⟩, ?_, Or.inl ?_⟩, ⟨fun t i a c => ?_, ?_, ?_⟩, fun _ _ _ => rfl⟩, ⟨fun _ => 0, fun _ => 0, fun _ => 0, 0, ⟨by omega, fun k w => absurd w (Nat.not_lt_zero k)⟩, ⟨?_, fun k w => absurd w (Nat.not_lt_zero k)⟩, ⟨?_, fun k w => absurd w (Nat.not_lt_zero k)⟩⟩, ⟨⟨0, zBR_new (fun i hi => ?_) (fun i hi => ?_) (fun t e a c => ?_) ?_ ?_ ?_⟩, ?_, ?_⟩, ⟨fun _ _ => 0, ⟨⟨fun _ _ => show -500 ≤ (0 : Int) ∧ (0 : Int) ≤ 500 from by decide, by omega, by omega⟩, ⟨fun r z a c => ?_, ?_⟩, ?_, Or.inl ?_⟩, ⟨fun r z a c => ?_, e128⟩, ?_⟩, zJS_fr hI.2.2.2.2.2.1 (fun c j w => gA c j (by omega)), zJG_fr hI.2.2.2.2.2.2.1 (fun c j w => gA c j (by omega)), zJC_fr hI.2.2.2.2.2.2.2.1 (fun c j w => gA c j (by omega)), ⟨fun j => by rw [gA 154 j (by omega)]; exact hI.2.2.2.2.2.2.2.2.1 j, by rw [gA 155 0 (by omega)]; exact hI.2.2.2.2.2.2.2.2.2⟩⟩
    · rw [gl 0 8 (by omega), f3 0 8 (by omega) (by omega), gB 0 8 (by omega), f1 0 8 (by omega) (by omega), zU_same]
    · rw [gl _ _ (by omega), f3 _ _ (by omega) (by omega), gB _ _ (by omega)]; exact f1c t i a c
    · rw [gA 2 7 (by omega)]; exact kI.2.1.2.1
    · rw [gl 2 8 (by omega), f3 2 8 (by omega) (by omega), gB 2 8 (by omega), f1a, hqq]
    · rw [gA 7 0 (by omega)]; exact kI.2.2.1
    · rw [gl 2 11 (by omega), f3 2 11 (by omega) (by omega), gB 2 11 (by omega)]; exact f1b
    · unfold zBg
      rw [zU_ne (by decide), zU_ne (by decide), zFl_off (by decide)]
      unfold zFl va_up
      rw [if_pos rfl, if_pos (show 15 * t + i < 45 by omega)]; rfl
    · rw [gA 128 7 (by omega)]; exact kM.2.1
    · rw [e128, hqq]
    · rw [gl 13 4 (by omega), f3 13 4 (by omega) (by omega), hBdef, zU_ne (by decide), zU_ne (by decide), zV_ne (by decide), zFl_off (by decide), zU_ne (by decide), zU_same]; rfl
    · unfold zBg
      rw [zU_off (by decide), zU_same]; rfl
    · have x1 : B 18 i = 0 := by rw [hBdef, zU_ne (by decide), zU_ne (by decide), zV_ne (by decide), zFl_in hi]
      have x2 : zBg m3 (nI q) 129 i = 0 := by
        unfold zBg
        rw [zU_ne (by decide), zU_ne (by decide), zFl_off (by decide), zFl_off (by decide), zFl_off (by decide), zFl_in hi]
      rw [gl 18 i (by omega), f3 18 i (by omega) (by omega), x1, x2]
    · have x1 : B 19 i = 0 := by
        rw [hBdef, zU_ne (by decide), zU_ne (by decide), zV_at]
        unfold va_cpy
        rw [if_pos (by omega), show 0 + (i - 0) = i by omega, zFl_in hi]
      have x2 : zBg m3 (nI q) 130 i = 0 := by
        unfold zBg
        rw [zU_ne (by decide), zU_ne (by decide), zFl_off (by decide), zFl_off (by decide), zFl_in hi]
      rw [gl 19 i (by omega), f3 19 i (by omega) (by omega), x1, x2]
    · rw [gA _ _ (by omega), gA 135 _ (by omega)]; exact hB.2.2.1 t e a c
    · rw [gl 17 9 (by omega), f3 17 9 (by omega) (by omega), hBdef, zU_off (by decide), zU_off (by decide), zV_ne (by decide), zFl_off (by decide), zU_off (by decide), zU_ne (by decide), f1 17 9 (by omega) (by omega), zU_ne (by decide), gA 128 13 (by omega)]; exact hB.2.2.2.1
    · rw [gl 17 8 (by omega), f3 17 8 (by omega) (by omega), hBdef, zU_off (by decide), zU_same]
    · unfold zBg
      rw [zU_same]
    · rw [gl 17 7 (by omega), f3 17 7 (by omega) (by omega), hBdef, zU_off (by decide), zU_off (by decide), zV_ne (by decide), zFl_off (by decide), zU_same]
    · obtain ⟨_, c, p2, p3, p4, p5⟩ := hP
      refine ⟨c + 1, ?_, by omega, by omega, fun t ht => ?_⟩
      · rw [gl 17 10 (by omega), f3 17 10 (by omega) (by omega), hBdef, zU_same, zU_ne (by decide), f1 17 10 (by omega) (by omega), zU_ne (by decide), p2, zl_1, zi_add]
      · obtain ⟨e, q1, q2, q3, q4⟩ := p5 t ht
        exact ⟨e, by rw [gA 95 t (by omega)]; exact q1, q2, by omega, fun w => by omega⟩
    · rw [gl _ _ (by omega)]; exact f3c r z a c
    · rw [gl 98 4 (by omega)]; exact f3a
    · obtain ⟨bd, r1, r5, r6⟩ := hI.2.2.2.2.1
      obtain ⟨t, ht⟩ := r1.2.2.1
      exact ⟨t, fun r hr => by rw [gA 113 r (by omega)]; exact ht r hr⟩
    · rw [gl 98 6 (by omega)]; exact f3b
    · unfold zBg
      rw [zU_ne (by decide), zU_ne (by decide)]
      unfold zFl va_up
      rw [if_pos rfl, if_pos (show 16 * r + z < 112 by omega)]; rfl
    · obtain ⟨bd, r1, r5, t, ht⟩ := hI.2.2.2.2.1
      exact ⟨t, fun r hr => by rw [gA 150 r (by omega)]; exact ht r hr⟩
  · have hbad := h7 --A
    refine wx_iconst (v := (-1)) dX8_disc_10 (by decide) ?_
    refine wx_iret dX8_disc_11 rfl rfl (Or.inl rfl) ?_
    exact hK _ _ (fun K' h => s_X9_disc_bad (fun w => hbad w) (h mm (zIn_0 hI hb)))
