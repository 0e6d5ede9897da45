/-! calls: heights, pulls, strokes -/
theorem zV_ne {mm : zM} {k a : Nat} {f : Nat → Int32} (h : a ≠ k) : va_up mm k f a = mm a := if_neg h
theorem zV_at {mm : zM} {k : Nat} {f : Nat → Int32} : va_up mm k f k = f := if_pos rfl
theorem s_X0_wouldSink2 {d : Nat} {K : List Value → zS → Prop} {mm : zM} {n z t : Nat} {m : Int32} (hn : 4 ≤ n ∧ n ≤ 16) (hz : z < n) (ht : t < 3) (hzn : mm 17 7 = nI n) (hK : ∀ v : Int32, (v = 1 ∧ ∃ e, e < 5 ∧ zSk mm n z m (mm (20 + 1 + t)) (mm 18) e) ∨ (v = 0 ∧ ¬ ∃ e, e < 5 ∧ zSk mm n z m (mm (20 + 1 + t)) (mm 18) e) → K [.int v] (zG mm)) : wm (d + 2) mX0_wouldSink [.ref 17, .int (nI t), .int (nI z), .int m] (zG mm) K :=
  s_X0_wouldSink hn hz ht hzn (fun h => hK 1 (Or.inl ⟨rfl, h⟩)) (fun h => hK 0 (Or.inr ⟨rfl, h⟩))
/-- heights of class and reference after one of them is told -/
theorem zBR_h {n k z : Nat} {mm m2 : zM} {v : Int32} (hB : zBR n k mm mm) (e1 : ∀ i, i < 16 → m2 18 i = if i = z then v else mm 18 i) (e2 : ∀ i, i < 16 → m2 129 i = if i = z then v else mm 129 i) (e3 : ∀ i, i < 16 → m2 19 i = m2 18 i) (e4 : ∀ i, i < 16 → m2 130 i = m2 129 i) (e5 : ∀ t e, t < 3 → m2 (20 + 1 + t) e = mm (20 + 1 + t) e) (e6 : m2 135 = mm 135) (e7 : m2 17 9 = mm 17 9) (e8 : m2 128 13 = mm 128 13) (e9 : m2 17 8 = 0) (e10 : m2 128 14 = 0) : zBR n 0 m2 m2 := by
  obtain ⟨h1, h2, h3, h4, h5, h6, h7, h8⟩ := hB
  have e : ∀ i, i < 16 → m2 18 i = m2 129 i := fun i hi => by
    rw [e1 i hi, e2 i hi, h1 i hi]
  exact zBR_new e (fun i hi => by rw [e3 i hi, e4 i hi, e i hi]) (fun t e u w => by rw [e5 t e u, e6]; exact h3 t e u w) (by rw [e7, e8]; exact h4) e9 e10
theorem op_at {d : Nat} {K : List Value → zS → Prop} {mm : zM} {sc : Nat → Int32} {ln b n : Nat} {a0 : Int32} (hI : zIn sc ln n b mm) (hb : b < 1000) (hK : ∀ (x : Int32) (m1 : zM), zAgr sc ln (b + 1) (d + 80) mX9_at [.ref 128, .int a0] (.int x) m1 → K [.int x] (zG m1))  : wm (d + 80) mX8_at [.ref 0, .int a0] (zG mm) K := by
  obtain ⟨hn4, hn16, hb1000, hz0, hz1⟩ := hI.1
  obtain ⟨⟨k, hB⟩, hP⟩ := hI.2.2.2.1
  have hk60 := hB.2.2.2.2.2.2.1
  have hks := hB.2.2.2.2.1
  have hksM := hB.2.2.2.2.2.1
  refine wm_of2 (L0 := [some (.ref 0), some (.int a0)]) zCm_X8_at (Or.inl rfl) (Nat.le_of_ble_eq_true rfl) rfl ?_
  refine wx_aload_n (i := 0) dX8_at_0 rfl rfl ?_
  refine wx_iload_n (i := 1) dX8_at_1 rfl rfl ?_
  refine wx_V1 dX8_at_2 zPV_X8_isZone zLk_X8_95 rfl (Nat.le_of_ble_eq_true rfl) (Nat.le_of_ble_eq_true rfl) (Or.inr rfl) ?_
  refine s_X8_isZone _ ?_
  rw [hz0]
  refine wx_r1 ?_
  refine wx_eqb (tgt := 19) dX8_at_5 (by decide) (fun h5 => ?_) (fun h5 => ?_)
  · have hbad := h5 --A
    refine wx_ldc dX8_at_19 zKc_X8_101 ?_
    refine wx_iret dX8_at_21 rfl rfl (Or.inl rfl) ?_
    exact hK _ _ (fun K' h => s_X9_at_bad hz1 (fun w => hbad w) (h mm (zIn_0 hI hb)))
  · obtain ⟨z, e1, e1l⟩ := zNat (a := a0) (m := (n : Int) - 1) (by omega) (by have := h5; rw [zl_1, zi_nI, zi_sub] at this; exact this)
    subst e1 --OK
    refine wx_aload_n (i := 0) dX8_at_8 rfl rfl ?_
    refine wx_getRG (k := 0) (t := 17) dX8_at_9 zF_X8_35 zKo_0 rfl (Nat.le_of_ble_eq_true rfl) zRf_0_3 ?_
    refine wx_iload_n (i := 1) dX8_at_12 rfl rfl ?_
    refine wx_V1 dX8_at_13 zPV_X0_heightOf zLk_X8_106 rfl (Nat.le_of_ble_eq_true rfl) (Nat.le_of_ble_eq_true rfl) (Or.inr rfl) ?_
    refine s_X0_heightOf (show z < 16 by omega) ?_
    refine wx_r1 ?_
    refine wx_goto (tgt := 21) dX8_at_16 (by decide) ?_
    refine wx_iret dX8_at_21 rfl rfl (Or.inl rfl) ?_
    exact hK _ _ (fun K' h => s_X9_at_ok hz1 (show z < 16 by omega) h5 (by rw [← hB.1 z (by omega)]; exact h mm (zIn_0 hI hb)))
theorem op_height {d : Nat} {K : List Value → zS → Prop} {mm : zM} {sc : Nat → Int32} {ln b n : Nat} {a0 a1 : Int32} (hI : zIn sc ln n b mm) (hb : b < 1000) (hK : ∀ (x : Int32) (m1 : zM), zAgr sc ln (b + 1) (d + 80) mX9_height [.ref 128, .int a0, .int a1] (.int x) m1 → K [.int x] (zG m1))  : wm (d + 80) mX8_height [.ref 0, .int a0, .int a1] (zG mm) K := by
  obtain ⟨hn4, hn16, hb1000, hz0, hz1⟩ := hI.1
  obtain ⟨⟨k, hB⟩, hP⟩ := hI.2.2.2.1
  have hk60 := hB.2.2.2.2.2.2.1
  have hks := hB.2.2.2.2.1
  have hksM := hB.2.2.2.2.2.1
  refine wm_of2 (L0 := [some (.ref 0), some (.int a0), some (.int a1)]) zCm_X8_height (Or.inl rfl) (Nat.le_of_ble_eq_true rfl) rfl ?_
  refine wx_aload_n (i := 0) dX8_height_0 rfl rfl ?_
  refine wx_iload_n (i := 1) dX8_height_1 rfl rfl ?_
  refine wx_V1 dX8_height_2 zPV_X8_isZone zLk_X8_95 rfl (Nat.le_of_ble_eq_true rfl) (Nat.le_of_ble_eq_true rfl) (Or.inr rfl) ?_
  refine s_X8_isZone _ ?_
  rw [hz0]
  refine wx_r1 ?_
  refine wx_eqb (tgt := 19) dX8_height_5 (by decide) (fun h5 => ?_) (fun h5 => ?_)
  · have hbad := h5 --A
    refine wx_ldc dX8_height_19 zKc_X8_101 ?_
    refine wx_iret dX8_height_21 rfl rfl (Or.inl rfl) ?_
    exact hK _ _ (fun K' h => s_X9_height_bad hz1 (fun w => hbad w.1) (h mm (zIn_0 hI hb)))
  · obtain ⟨z, e1, e1l⟩ := zNat (a := a0) (m := (n : Int) - 1) (by omega) (by have := h5; rw [zl_1, zi_nI, zi_sub] at this; exact this)
    subst e1
    refine wx_iload_n (i := 2) dX8_height_8 rfl rfl ?_
    refine wx_ldc dX8_height_9 zKc_X8_99 ?_
    refine wx_ldc dX8_height_11 zKc_X8_100 ?_
    refine wx_S3 dX8_height_13 zPS_X8_within zLk_X8_73 (Nat.le_of_ble_eq_true rfl) (Or.inr rfl) ?_
    refine s_X8_within _ _ _ ?_
    refine wx_r1 ?_
    refine wx_neb (tgt := 22) dX8_height_16 (by decide) (fun h16 => ?_) (fun h16 => ?_)
    · skip --OK
      refine wx_aload_n (i := 0) dX8_height_22 rfl rfl ?_
      refine wx_getRG (k := 0) (t := 17) dX8_height_23 zF_X8_35 zKo_0 rfl (Nat.le_of_ble_eq_true rfl) zRf_0_3 ?_
      refine wx_iload_n (i := 1) dX8_height_26 rfl rfl ?_
      refine wx_iload_n (i := 2) dX8_height_27 rfl rfl ?_
      refine wx_V2 dX8_height_28 zPV_X0_tellHeight zLk_X8_102 rfl (Nat.le_of_ble_eq_true rfl) (Nat.le_of_ble_eq_true rfl) (Or.inr rfl) ?_
      refine s_X0_tellHeight _ (show z < 16 by omega) ?_
      refine wx_r1 ?_
      refine wx_iret dX8_height_31 rfl rfl (Or.inl rfl) ?_
      refine hK _ _ (fun K' h => s_X9_height_ok (n := n) (by rw [zU_ne (by decide), zU_ne (by decide), zV_ne (by decide), zU_ne (by decide)]; exact hz1) (show z < 16 by omega) h5 h16 ?_)
      rw [zU_ne (a := 129) (by decide), zU_ne (a := 129) (by decide), zV_ne (a := 129) (by decide), zU_ne (a := 129) (by decide), ← hB.1 z (by omega)]
      refine h _ (zIn_B hI hb (fun c j w => ?_) ⟨⟨0, zBR_h (z := z) (v := a1) hB (fun i hi => ?_) (fun i hi => ?_) (fun i hi => ?_) (fun i hi => ?_) (fun t e u => ?_) ?_ ?_ ?_ ?_ ?_⟩, zPx_up (k := 1) hP ?_ (by omega) ?_ (fun t u => ?_)⟩)
      · rw [zV_ne (by omega), zU_off (by omega), zU_ne (by omega), zU_ne (by omega), zU_ne (by omega), zV_ne (by omega), zU_ne (by omega)]
      · rw [zV_ne (by decide), zU_ne (by decide), zU_ne (by decide), zU_ne (by decide), zU_ne (by decide), zV_ne (by decide), zU_at]; rfl
      · rw [zV_ne (by decide), zU_ne (by decide), zU_at, zU_ne (by decide), zU_ne (by decide), zV_ne (by decide), zU_ne (by decide)]; rfl
      · rw [zV_ne (show (19 : Nat) ≠ 130 by decide), zU_ne (show (19 : Nat) ≠ 128 by decide), zU_ne (show (19 : Nat) ≠ 129 by decide), zU_ne (show (19 : Nat) ≠ 17 by decide), zU_ne (show (19 : Nat) ≠ 17 by decide), zV_at, zV_ne (show (18 : Nat) ≠ 130 by decide), zU_ne (show (18 : Nat) ≠ 128 by decide), zU_ne (show (18 : Nat) ≠ 129 by decide), zU_ne (show (18 : Nat) ≠ 17 by decide), zU_ne (show (18 : Nat) ≠ 17 by decide), zV_ne (show (18 : Nat) ≠ 19 by decide)]
        show va_cpy _ _ 0 0 16 i = _
        unfold va_cpy
        rw [if_pos (by omega), show 0 + (i - 0) = i by omega]
      · rw [zV_at, zV_ne (show (129 : Nat) ≠ 130 by decide), zU_ne (show (129 : Nat) ≠ 128 by decide)]
        exact if_pos hi
      · rw [zV_ne (by omega), zU_ne (by omega), zU_ne (by omega), zU_ne (by omega), zU_ne (by omega), zV_ne (by omega), zU_ne (by omega)]
      · rw [zV_ne (by decide), zU_ne (by decide), zU_ne (by decide), zU_ne (by decide), zU_ne (by decide), zV_ne (by decide), zU_ne (by decide)]
      · rw [zV_ne (by decide), zU_ne (by decide), zU_ne (by decide), zU_off (by decide), zU_off (by decide), zV_ne (by decide), zU_ne (by decide)]
      · rw [zV_ne (by decide), zU_off (by decide), zU_ne (by decide), zU_ne (by decide), zU_ne (by decide), zV_ne (by decide), zU_ne (by decide)]
      · rw [zV_ne (by decide), zU_ne (by decide), zU_ne (by decide), zU_off (by decide), zU_same]
      · rw [zV_ne (by decide), zU_same]
      · rw [zV_ne (by decide), zU_ne (by decide), zU_ne (by decide), zU_off (by decide), zU_off (by decide), zV_ne (by decide), zU_ne (by decide)]
      · rw [zV_ne (by decide), zU_ne (by decide), zU_ne (by decide), zU_same]; rfl
      · rw [zV_ne (by decide), zU_ne (by decide), zU_ne (by decide), zU_ne (by decide), zU_ne (by decide), zV_ne (by decide), zU_ne (by decide)]
    · have hbad := h16 --B
      refine wx_ldc dX8_height_19 zKc_X8_101 ?_
      refine wx_iret dX8_height_21 rfl rfl (Or.inl rfl) ?_
      exact hK _ _ (fun K' h => s_X9_height_bad hz1 (fun w => hbad w.2) (h mm (zIn_0 hI hb)))
theorem op_rest {d : Nat} {K : List Value → zS → Prop} {mm : zM} {sc : Nat → Int32} {ln b n : Nat} {a0 : Int32} (hI : zIn sc ln n b mm) (hb : b < 1000) (hK : ∀ (x : Int32) (m1 : zM), zAgr sc ln (b + 1) (d + 80) mX9_rest [.ref 128, .int a0] (.int x) m1 → K [.int x] (zG m1))  : wm (d + 80) mX8_rest [.ref 0, .int a0] (zG mm) K := by
  obtain ⟨hn4, hn16, hb1000, hz0, hz1⟩ := hI.1
  obtain ⟨⟨k, hB⟩, hP⟩ := hI.2.2.2.1
  have hk60 := hB.2.2.2.2.2.2.1
  have hks := hB.2.2.2.2.1
  have hksM := hB.2.2.2.2.2.1
  refine wm_of2 (L0 := [some (.ref 0), some (.int a0)]) zCm_X8_rest (Or.inl rfl) (Nat.le_of_ble_eq_true rfl) rfl ?_
  refine wx_iload_n (i := 1) dX8_rest_0 rfl rfl ?_
  refine wx_iconst (v := 0) dX8_rest_1 (by decide) ?_
  refine wx_sipush (v := 10000) dX8_rest_2 (by decide) ?_
  refine wx_S3 dX8_rest_5 zPS_X8_within zLk_X8_73 (Nat.le_of_ble_eq_true rfl) (Or.inr rfl) ?_
  refine s_X8_within _ _ _ ?_
  refine wx_r1 ?_
  refine wx_eqb (tgt := 22) dX8_rest_8 (by decide) (fun h8 => ?_) (fun h8 => ?_)
  · have hbad := h8 --A
    refine wx_iconst (v := (-1)) dX8_rest_22 (by decide) ?_
    refine wx_iret dX8_rest_23 rfl rfl (Or.inl rfl) ?_
    exact hK _ _ (fun K' h => s_X9_rest_bad (fun w => hbad w) (h mm (zIn_0 hI hb)))
  · skip --OK
    refine wx_aload_n (i := 0) dX8_rest_11 rfl rfl ?_
    refine wx_getRG (k := 0) (t := 17) dX8_rest_12 zF_X8_35 zKo_0 rfl (Nat.le_of_ble_eq_true rfl) zRf_0_3 ?_
    refine wx_iload_n (i := 1) dX8_rest_15 rfl rfl ?_
    refine wx_V1 dX8_rest_16 zPV_X0_tellRest zLk_X8_152 rfl (Nat.le_of_ble_eq_true rfl) (Nat.le_of_ble_eq_true rfl) (Or.inr rfl) ?_
    refine s_X0_tellRest _ ?_
    refine wx_r1 ?_
    refine wx_goto (tgt := 23) dX8_rest_19 (by decide) ?_
    refine wx_iret dX8_rest_23 rfl rfl (Or.inl rfl) ?_
    refine hK _ _ (fun K' h => s_X9_rest_ok h8 ?_)
    rw [zU_ne (by decide), zU_ne (by decide), ← hB.2.2.2.1]
    refine h _ (zIn_B hI hb (fun c j w => ?_) ⟨⟨k, ?_⟩, zPx_up (k := 1) hP ?_ (by omega) ?_ (fun t u => ?_)⟩)
    · rw [zU_off (by omega), zU_ne (by omega), zU_ne (by omega)]
    · obtain ⟨b1, b2, b3, b4, b5, b6, b7, b8⟩ := hB
      refine ⟨fun i hi => ?_, fun i hi => ?_, fun t e u w => ?_, ?_, ?_, ?_, b7, fun j hj => ?_⟩
      · rw [zU_ne (by decide), zU_ne (by decide), zU_ne (by decide), zU_ne (by decide), zU_ne (by decide), zU_ne (by decide)]; exact b1 i hi
      · rw [zU_ne (by decide), zU_ne (by decide), zU_ne (by decide), zU_ne (by decide), zU_ne (by decide), zU_ne (by decide)]; exact b2 i hi
      · rw [zU_ne (by omega), zU_ne (by omega), zU_ne (by omega), zU_ne (by decide), zU_ne (by decide), zU_ne (by decide)]; exact b3 t e u w
      · rw [zU_ne (by decide), zU_off (by decide), zU_same, zU_same]
      · rw [zU_ne (by decide), zU_off (by decide), zU_off (by decide)]; exact b5
      · rw [zU_off (by decide), zU_ne (by decide), zU_ne (by decide)]; exact b6
      · obtain ⟨⟨t, t1, t2, t3⟩, ⟨w, w1, w2, w3⟩, k1, k2⟩ := b8 j hj
        refine ⟨⟨t, t1, ?_, ?_⟩, ⟨w, w1, ?_, ?_⟩, ?_, fun e he => ?_⟩
        · rw [zU_ne (by decide), zU_ne (by decide), zU_ne (by decide)]; exact t2
        · rw [zU_ne (by decide), zU_ne (by decide), zU_ne (by decide)]; exact t3
        · rw [zU_ne (by decide), zU_ne (by decide), zU_ne (by decide)]; exact w2
        · rw [zU_ne (by decide), zU_ne (by decide), zU_ne (by decide)]; exact w3
        · rw [zU_ne (by decide), zU_ne (by decide), zU_ne (by decide), zU_ne (by decide), zU_ne (by decide), zU_ne (by decide)]; exact k1
        · rw [zU_ne (by omega), zU_ne (by omega), zU_ne (by omega), zU_ne (by decide), zU_ne (by decide), zU_ne (by decide)]; exact k2 e he
    · rw [zU_ne (by decide), zU_off (by decide), zU_off (by decide)]
    · rw [zU_ne (by decide), zU_same]; rfl
    · rw [zU_ne (by decide), zU_ne (by decide), zU_ne (by decide)]
theorem op_pull {d : Nat} {K : List Value → zS → Prop} {mm : zM} {sc : Nat → Int32} {ln b n : Nat} {a0 a1 a2 : Int32} (hI : zIn sc ln n b mm) (hb : b < 1000) (hK : ∀ (x : Int32) (m1 : zM), zAgr sc ln (b + 1) (d + 80) mX9_pull [.ref 128, .int a0, .int a1, .int a2] (.int x) m1 → K [.int x] (zG m1))  : wm (d + 80) mX8_pull [.ref 0, .int a0, .int a1, .int a2] (zG mm) K := by
  obtain ⟨hn4, hn16, hb1000, hz0, hz1⟩ := hI.1
  obtain ⟨⟨k, hB⟩, hP⟩ := hI.2.2.2.1
  have hk60 := hB.2.2.2.2.2.2.1
  have hks := hB.2.2.2.2.1
  have hksM := hB.2.2.2.2.2.1
  refine wm_of2 (L0 := [some (.ref 0), some (.int a0), some (.int a1), some (.int a2)]) zCm_X8_pull (Or.inl rfl) (Nat.le_of_ble_eq_true rfl) rfl ?_
  refine wx_iload_n (i := 1) dX8_pull_0 rfl rfl ?_
  refine wx_S1 dX8_pull_1 zPS_X8_isTool zLk_X8_146 (Nat.le_of_ble_eq_true rfl) (Or.inr rfl) ?_
  refine s_X8_isTool _ ?_
  refine wx_r1 ?_
  refine wx_eqb (tgt := 27) dX8_pull_4 (by decide) (fun h4 => ?_) (fun h4 => ?_)
  · have hbad := h4 --A
    refine wx_iconst (v := (-1)) dX8_pull_27 (by decide) ?_
    refine wx_iret dX8_pull_28 rfl rfl (Or.inl rfl) ?_
    exact hK _ _ (fun K' h => s_X9_pull_bad (fun w => hbad w.1) (h mm (zIn_0 hI hb)))
  · obtain ⟨t, e1, e1l⟩ := zNat (m := 2) (by omega) h4
    subst e1
    refine wx_iload_n (i := 2) dX8_pull_7 rfl rfl ?_
    refine wx_bipush (v := (-2)) dX8_pull_8 (by decide) ?_
    refine wx_iconst (v := 2) dX8_pull_10 (by decide) ?_
    refine wx_S3 dX8_pull_11 zPS_X8_within zLk_X8_73 (Nat.le_of_ble_eq_true rfl) (Or.inr rfl) ?_
    refine s_X8_within _ _ _ ?_
    refine wx_r1 ?_
    refine wx_eqb (tgt := 27) dX8_pull_14 (by decide) (fun h14 => ?_) (fun h14 => ?_)
    · have hbad := h14 --B
      refine wx_iconst (v := (-1)) dX8_pull_27 (by decide) ?_
      refine wx_iret dX8_pull_28 rfl rfl (Or.inl rfl) ?_
      exact hK _ _ (fun K' h => s_X9_pull_bad (fun w => hbad w.2.1) (h mm (zIn_0 hI hb)))
    · obtain ⟨x, e2, e3⟩ := zInt (a := -2) (c := 2) (by omega) (by omega) h14
      obtain ⟨e, he, e4⟩ : ∃ e : Nat, e < 5 ∧ a1 = zi ((e : Int) - 2) := ⟨(x + 2).toNat, by omega, by rw [e2]; exact congrArg zi (by omega)⟩
      subst e4
      refine wx_iload_n (i := 3) dX8_pull_17 rfl rfl ?_
      refine wx_iconst (v := 0) dX8_pull_18 (by decide) ?_
      refine wx_bipush (v := 50) dX8_pull_19 (by decide) ?_
      refine wx_S3 dX8_pull_21 zPS_X8_within zLk_X8_73 (Nat.le_of_ble_eq_true rfl) (Or.inr rfl) ?_
      refine s_X8_within _ _ _ ?_
      refine wx_r1 ?_
      refine wx_neb (tgt := 29) dX8_pull_24 (by decide) (fun h24 => ?_) (fun h24 => ?_)
      · skip --OK
        refine wx_aload_n (i := 0) dX8_pull_29 rfl rfl ?_
        refine wx_getRG (k := 0) (t := 17) dX8_pull_30 zF_X8_35 zKo_0 rfl (Nat.le_of_ble_eq_true rfl) zRf_0_3 ?_
        refine wx_iload_n (i := 1) dX8_pull_33 rfl rfl ?_
        refine wx_iload_n (i := 2) dX8_pull_34 rfl rfl ?_
        refine wx_iload_n (i := 3) dX8_pull_35 rfl rfl ?_
        refine wx_V3 dX8_pull_36 zPV_X0_tellPull zLk_X8_149 rfl (Nat.le_of_ble_eq_true rfl) (Nat.le_of_ble_eq_true rfl) (Or.inr rfl) ?_
        refine s_X0_tellPull _ (show t < 3 by omega) he ?_
        refine wx_r1 ?_
        refine wx_iret dX8_pull_39 rfl rfl (Or.inl rfl) ?_
        refine hK _ _ (fun K' h => s_X9_pull_ok (show t < 3 by omega) he h4 h14 h24 ?_)
        rw [zU_ne (by decide), zU_ne (by omega), ← hB.2.2.1 t e (by omega) he]
        refine h _ (zIn_B hI hb (fun c j w => ?_) ⟨⟨k, ?_⟩, zPx_up (k := 1) hP ?_ (by omega) ?_ (fun t2 u => ?_)⟩)
        · rw [zU_ne (by omega), zU_ne (by omega), zU_ne (by omega)]
        · obtain ⟨b1, b2, b3, b4, b5, b6, b7, b8⟩ := hB
          refine ⟨fun i hi => ?_, fun i hi => ?_, fun t2 e2 u w => ?_, ?_, ?_, ?_, b7, fun j hj => ?_⟩
          · rw [zU_ne (by decide), zU_ne (by decide), zU_ne (by omega), zU_ne (by decide), zU_ne (by decide), zU_ne (by omega)]; exact b1 i hi
          · rw [zU_ne (by decide), zU_ne (by decide), zU_ne (by omega), zU_ne (by decide), zU_ne (by decide), zU_ne (by omega)]; exact b2 i hi
          · rw [zU_ne (by omega), zU_ne (by omega)]
            by_cases q : t2 = t ∧ e2 = e
            · rw [q.1, q.2, zU_same, zU_same]
            · rw [zU_off (by omega), zU_off (by omega), zU_ne (by decide), zU_ne (by omega)]; exact b3 t2 e2 u w
          · rw [zU_ne (by decide), zU_off (by decide), zU_ne (by omega), zU_ne (by decide), zU_ne (by decide), zU_ne (by omega)]; exact b4
          · rw [zU_ne (by decide), zU_off (by decide), zU_ne (by omega)]; exact b5
          · rw [zU_ne (by decide), zU_ne (by decide), zU_ne (by omega)]; exact b6
          · obtain ⟨⟨t2, t1, t3, t4⟩, ⟨w, w1, w2, w3⟩, k1, k2⟩ := b8 j hj
            refine ⟨⟨t2, t1, ?_, ?_⟩, ⟨w, w1, ?_, ?_⟩, ?_, fun e2 he2 => ?_⟩
            · rw [zU_ne (by decide), zU_ne (by decide), zU_ne (by omega)]; exact t3
            · rw [zU_ne (by decide), zU_ne (by decide), zU_ne (by omega)]; exact t4
            · rw [zU_ne (by decide), zU_ne (by decide), zU_ne (by omega)]; exact w2
            · rw [zU_ne (by decide), zU_ne (by decide), zU_ne (by omega)]; exact w3
            · rw [zU_ne (by decide), zU_ne (by decide), zU_ne (by omega), zU_ne (by decide), zU_ne (by decide), zU_ne (by omega)]; exact k1
            · rw [zU_ne (by omega), zU_ne (by omega), zU_ne (by omega), zU_ne (by decide), zU_ne (by decide), zU_ne (by omega)]; exact k2 e2 he2
        · rw [zU_ne (by decide), zU_off (by decide), zU_ne (by omega)]
        · rw [zU_ne (by decide), zU_same]; rfl
        · rw [zU_ne (by decide), zU_ne (by decide), zU_ne (by omega)]
      · have hbad := h24 --C
        refine wx_iconst (v := (-1)) dX8_pull_27 (by decide) ?_
        refine wx_iret dX8_pull_28 rfl rfl (Or.inl rfl) ?_
        exact hK _ _ (fun K' h => s_X9_pull_bad (fun w => hbad w.2.2) (h mm (zIn_0 hI hb)))
theorem op_stroke {d : Nat} {K : List Value → zS → Prop} {mm : zM} {sc : Nat → Int32} {ln b n : Nat} {a0 a1 a2 : Int32} (hI : zIn sc ln n b mm) (hb : b < 1000) (hK : ∀ (x : Int32) (m1 : zM), zAgr sc ln (b + 1) (d + 80) mX9_stroke [.ref 128, .int a0, .int a1, .int a2] (.int x) m1 → K [.int x] (zG m1))  : wm (d + 80) mX8_stroke [.ref 0, .int a0, .int a1, .int a2] (zG mm) K := by
  obtain ⟨hn4, hn16, hb1000, hz0, hz1⟩ := hI.1
  obtain ⟨⟨k, hB⟩, hP⟩ := hI.2.2.2.1
  have hk60 := hB.2.2.2.2.2.2.1
  have hks := hB.2.2.2.2.1
  have hksM := hB.2.2.2.2.2.1
  refine wm_of2 (L0 := [some (.ref 0), some (.int a0), some (.int a1), some (.int a2)]) zCm_X8_stroke (Or.inl rfl) (Nat.le_of_ble_eq_true rfl) rfl ?_
  refine wx_iload_n (i := 1) dX8_stroke_0 rfl rfl ?_
  refine wx_S1 dX8_stroke_1 zPS_X8_isTool zLk_X8_146 (Nat.le_of_ble_eq_true rfl) (Or.inr rfl) ?_
  refine s_X8_isTool _ ?_
  refine wx_r1 ?_
  refine wx_eqb (tgt := 25) dX8_stroke_4 (by decide) (fun h4 => ?_) (fun h4 => ?_)
  · have hbad := h4 --A
    refine wx_ldc dX8_stroke_25 zKc_X8_101 ?_
    refine wx_iret dX8_stroke_27 rfl rfl (Or.inl rfl) ?_
    exact hK _ _ (fun K' h => s_X9_stroke_bad hz1 (fun w => hbad w.1) (h mm (zIn_0 hI hb)))
  · obtain ⟨t, e1, e1l⟩ := zNat (m := 2) (by omega) h4
    subst e1
    refine wx_aload_n (i := 0) dX8_stroke_7 rfl rfl ?_
    refine wx_iload_n (i := 2) dX8_stroke_8 rfl rfl ?_
    refine wx_V1 dX8_stroke_9 zPV_X8_isZone zLk_X8_95 rfl (Nat.le_of_ble_eq_true rfl) (Nat.le_of_ble_eq_true rfl) (Or.inr rfl) ?_
    refine s_X8_isZone _ ?_
    rw [hz0]
    refine wx_r1 ?_
    refine wx_eqb (tgt := 25) dX8_stroke_12 (by decide) (fun h12 => ?_) (fun h12 => ?_)
    · have hbad := h12 --B
      refine wx_ldc dX8_stroke_25 zKc_X8_101 ?_
      refine wx_iret dX8_stroke_27 rfl rfl (Or.inl rfl) ?_
      exact hK _ _ (fun K' h => s_X9_stroke_bad hz1 (fun w => hbad w.2.1) (h mm (zIn_0 hI hb)))
    · obtain ⟨z, e2, e2l⟩ := zNat (a := a1) (m := (n : Int) - 1) (by omega) (by have := h12; rw [zl_1, zi_nI, zi_sub] at this; exact this)
      subst e2
      refine wx_iload_n (i := 3) dX8_stroke_15 rfl rfl ?_
      refine wx_iconst (v := 1) dX8_stroke_16 (by decide) ?_
      refine wx_bipush (v := 20) dX8_stroke_17 (by decide) ?_
      refine wx_S3 dX8_stroke_19 zPS_X8_within zLk_X8_73 (Nat.le_of_ble_eq_true rfl) (Or.inr rfl) ?_
      refine s_X8_within _ _ _ ?_
      refine wx_r1 ?_
      refine wx_neb (tgt := 28) dX8_stroke_22 (by decide) (fun h22 => ?_) (fun h22 => ?_)
      · skip
        refine wx_aload_n (i := 0) dX8_stroke_28 rfl rfl ?_
        refine wx_getRG (k := 0) (t := 17) dX8_stroke_29 zF_X8_35 zKo_0 rfl (Nat.le_of_ble_eq_true rfl) zRf_0_3 ?_
        refine wx_iload_n (i := 1) dX8_stroke_32 rfl rfl ?_
        refine wx_iload_n (i := 2) dX8_stroke_33 rfl rfl ?_
        refine wx_iload_n (i := 3) dX8_stroke_34 rfl rfl ?_
        refine wx_V3 dX8_stroke_35 zPV_X0_wouldSink zLk_X8_155 rfl (Nat.le_of_ble_eq_true rfl) (Nat.le_of_ble_eq_true rfl) (Or.inr rfl) ?_
        refine s_X0_wouldSink2 ⟨hn4, hn16⟩ (show z < n by omega) (show t < 3 by omega) hP.1 (fun v hs => ?_)
        refine wx_r1 ?_
        refine wx_if_eq (tgt := 44) dX8_stroke_38 (by decide) (fun h38 => ?_) (fun h38 => ?_)
        · have hno : ¬ ∃ e, e < 5 ∧ zSk mm n z a2 (mm (20 + 1 + t)) (mm 18) e := by
            rcases hs with ⟨e, _⟩ | ⟨_, e⟩
            · rw [e] at h38; exact absurd h38 (by decide)
            · exact e
          have hnoM := fun w => hno ((zSk_cg (m2 := mm) hn16 hB.1 (fun e he => hB.2.2.1 t e (by omega) he)).mpr w)
          refine wx_aload_n (i := 0) dX8_stroke_44 rfl rfl ?_
          refine wx_getRG (k := 0) (t := 17) dX8_stroke_45 zF_X8_35 zKo_0 rfl (Nat.le_of_ble_eq_true rfl) zRf_0_3 ?_
          refine wx_V0 dX8_stroke_48 zPV_X0_roomLeft zLk_X8_159 rfl (Nat.le_of_ble_eq_true rfl) (Nat.le_of_ble_eq_true rfl) (Or.inr rfl) ?_
          refine s_X0_roomLeft ?_
          refine wx_r1 ?_
          refine wx_iconst (v := 1) dX8_stroke_51 (by decide) ?_
          refine wx_icmp_ge (tgt := 58) dX8_stroke_52 (by decide) (fun h52 => ?_) (fun h52 => ?_)
          · rw [hks, zl_60, zl_1, zi_nI, zi_sub, zi_le (by omega) (by omega)] at h52 --OK
            refine wx_aload_n (i := 0) dX8_stroke_58 rfl rfl ?_
            refine wx_getRG (k := 0) (t := 17) dX8_stroke_59 zF_X8_35 zKo_0 rfl (Nat.le_of_ble_eq_true rfl) zRf_0_3 ?_
            refine wx_iload_n (i := 1) dX8_stroke_62 rfl rfl ?_
            refine wx_iload_n (i := 2) dX8_stroke_63 rfl rfl ?_
            refine wx_iload_n (i := 3) dX8_stroke_64 rfl rfl ?_
            refine wx_V3 dX8_stroke_65 zPV_X0_doStroke zLk_X8_163 rfl (Nat.le_of_ble_eq_true rfl) (Nat.le_of_ble_eq_true rfl) (Or.inr rfl) ?_
            refine s_X0_doStroke ⟨hn4, hn16⟩ (show z < n by omega) (show t < 3 by omega) hP.1 (k := k) (by omega) hks ?_
            refine wx_r0 ?_
            refine wx_aload_n (i := 0) dX8_stroke_68 rfl rfl ?_
            refine wx_getRG (k := 0) (t := 17) dX8_stroke_69 zF_X8_35 zKo_0 rfl (Nat.le_of_ble_eq_true rfl) zRf_0_3 ?_
            refine wx_iload_n (i := 2) dX8_stroke_72 rfl rfl ?_
            refine wx_V1 dX8_stroke_73 zPV_X0_heightOf zLk_X8_106 rfl (Nat.le_of_ble_eq_true rfl) (Nat.le_of_ble_eq_true rfl) (Or.inr rfl) ?_
            refine s_X0_heightOf (show z < 16 by omega) ?_
            refine wx_r1 ?_
            refine wx_iret dX8_stroke_76 rfl rfl (Or.inl rfl) ?_
            have hb1 : zBR n k mm (zDo mm n z t a2 k) := zBR_b hB (fun c j w => zDo_same (by omega))
            have hb2 := zBR_do (m := a2) hb1 (show k < 60 by omega) (show z < n by omega) (show t < 3 by omega)
            have hb3 : zBR n (k + 1) (zDoM (zDo mm n z t a2 k) n z t a2 k) (zDoM (zDo mm n z t a2 k) n z t a2 k) := zBR_a hb2 (fun c j w1 w2 => zDoM_same (by omega))
            refine hK _ _ (fun K' h => s_X9_stroke_ok ⟨hn4, hn16⟩ (show z < n by omega) (show t < 3 by omega) (by rw [zDo_same (by omega)]; exact hz1) (show k < 60 by omega) (by rw [zDo_same (by omega)]; exact hksM) h4 h12 h22 ?_ ?_)
            · intro w
              exact hno ((zSk_cg hn16 (fun i hi => by rw [zDo_same (by omega)]; exact hB.1 i hi) (fun e he => by
                show _ = zDo mm n z t a2 k 135 (5 * t + e)
                rw [zDo_same (by omega)]; exact hB.2.2.1 t e (by omega) he)).mpr w)
            rw [← hb2.1 z (by omega)]
            refine h _ (zIn_B hI hb (fun c j w => ?_) ⟨⟨k + 1, hb3⟩, zPx_up (k := 1) hP ?_ (by omega) ?_ (fun t2 u => ?_)⟩)
            · rw [zDoM_same (by omega), zDo_same (by omega)]
            · rw [zDoM_same (by omega), zDo_same (by omega)]
            · rw [zDoM_same (by omega), zDo_24.2.2.2]; rfl
            · rw [zDoM_same (by omega), zDo_same (by omega)]
          · rw [hks, zl_60, zl_1, zi_nI, zi_sub, zi_le (by omega) (by omega)] at h52 --FULL
            refine wx_ldc dX8_stroke_55 zKc_X8_162 ?_
            refine wx_iret dX8_stroke_57 rfl rfl (Or.inl rfl) ?_
            exact hK _ _ (fun K' h => s_X9_stroke_full ⟨hn4, hn16⟩ (show z < n by omega) (show t < 3 by omega) hz1 h4 h12 h22 hnoM (by rw [hksM, show k = 60 by omega]; rfl) (h mm (zIn_0 hI hb)))
        · have hye : ∃ e, e < 5 ∧ zSk mm n z a2 (mm (20 + 1 + t)) (mm 18) e := by
            rcases hs with ⟨_, e⟩ | ⟨e, _⟩
            · exact e
            · exact absurd e h38
          have hyeM := (zSk_cg (m2 := mm) hn16 hB.1 (fun e he => hB.2.2.1 t e (by omega) he)).mp hye --NO
          refine wx_ldc dX8_stroke_41 zKc_X8_158 ?_
          refine wx_iret dX8_stroke_43 rfl rfl (Or.inl rfl) ?_
          exact hK _ _ (fun K' h => s_X9_stroke_no ⟨hn4, hn16⟩ (show z < n by omega) (show t < 3 by omega) hz1 h4 h12 h22 hyeM (h mm (zIn_0 hI hb)))
      · have hbad := h22 --C
        refine wx_ldc dX8_stroke_25 zKc_X8_101 ?_
        refine wx_iret dX8_stroke_27 rfl rfl (Or.inl rfl) ?_
        exact hK _ _ (fun K' h => s_X9_stroke_bad hz1 (fun w => hbad w.2.2) (h mm (zIn_0 hI hb)))
theorem op_undo {d : Nat} {K : List Value → zS → Prop} {mm : zM} {sc : Nat → Int32} {ln b n : Nat}  (hI : zIn sc ln n b mm) (hb : b < 1000) (hK : ∀ (x : Int32) (m1 : zM), zAgr sc ln (b + 1) (d + 80) mX9_undo [.ref 128] (.int x) m1 → K [.int x] (zG m1))  : wm (d + 80) mX8_undo [.ref 0] (zG mm) K := by
  obtain ⟨hn4, hn16, hb1000, hz0, hz1⟩ := hI.1
  obtain ⟨⟨k, hB⟩, hP⟩ := hI.2.2.2.1
  have hk60 := hB.2.2.2.2.2.2.1
  have hks := hB.2.2.2.2.1
  have hksM := hB.2.2.2.2.2.1
  refine wm_of2 (L0 := [some (.ref 0)]) zCm_X8_undo (Or.inl rfl) (Nat.le_of_ble_eq_true rfl) rfl ?_
  refine wx_aload_n (i := 0) dX8_undo_0 rfl rfl ?_
  refine wx_getRG (k := 0) (t := 17) dX8_undo_1 zF_X8_35 zKo_0 rfl (Nat.le_of_ble_eq_true rfl) zRf_0_3 ?_
  refine wx_V0 dX8_undo_4 zPV_X0_howMany zLk_X8_166 rfl (Nat.le_of_ble_eq_true rfl) (Nat.le_of_ble_eq_true rfl) (Or.inr rfl) ?_
  refine s_X0_howMany ?_
  refine wx_r1 ?_
  refine wx_if_ne (tgt := 13) dX8_undo_7 (by decide) (fun h7 => ?_) (fun h7 => ?_)
  · obtain ⟨q, rfl⟩ : ∃ q, k = q + 1 := ⟨k - 1, by
      have : k ≠ 0 := fun e => h7 (by rw [hks, e]; rfl)
      omega⟩
    obtain ⟨z, z1, z2, z3⟩ := (hB.2.2.2.2.2.2.2 q (by omega)).2.1 --OK
    refine wx_aload_n (i := 0) dX8_undo_13 rfl rfl ?_
    refine wx_getRG (k := 0) (t := 17) dX8_undo_14 zF_X8_35 zKo_0 rfl (Nat.le_of_ble_eq_true rfl) zRf_0_3 ?_
    refine wx_V0 dX8_undo_17 zPV_X0_undoLatest zLk_X8_167 rfl (Nat.le_of_ble_eq_true rfl) (Nat.le_of_ble_eq_true rfl) (Or.inr rfl) ?_
    refine s_X0_undoLatest ⟨hn4, hn16⟩ z1 hP.1 (show q < 60 by omega) hks z2 ?_
    refine wx_r0 ?_
    refine wx_aload_n (i := 0) dX8_undo_20 rfl rfl ?_
    refine wx_getRG (k := 0) (t := 17) dX8_undo_21 zF_X8_35 zKo_0 rfl (Nat.le_of_ble_eq_true rfl) zRf_0_3 ?_
    refine wx_V0 dX8_undo_24 zPV_X0_howMany zLk_X8_166 rfl (Nat.le_of_ble_eq_true rfl) (Nat.le_of_ble_eq_true rfl) (Or.inr rfl) ?_
    refine s_X0_howMany ?_
    refine wx_r1 ?_
    refine wx_iret dX8_undo_27 rfl rfl (Or.inl rfl) ?_
    have hb1 : zBR n (q + 1) mm (zUd mm n z q) := zBR_b hB (fun c j w => zUd_same (by omega))
    have hb2 := zBR_undo (z := z) hb1
    have hb3 : zBR n q (zUdM (zUd mm n z q) n z q) (zUdM (zUd mm n z q) n z q) := zBR_a hb2 (fun c j w1 w2 => zUdM_same (by omega))
    rw [hb2.2.2.2.2.1]
    refine hK _ _ (fun K' h => s_X9_undo_ok ⟨hn4, hn16⟩ z1 (by rw [zUd_same (by omega)]; exact hz1) (show q < 60 by omega) (by rw [zUd_same (by omega)]; exact hksM) (by rw [zUd_same (by omega)]; exact z3) ?_)
    refine h _ (zIn_B hI hb (fun c j w => ?_) ⟨⟨q, hb3⟩, zPx_up (k := 1) hP ?_ (by omega) ?_ (fun t2 u => ?_)⟩)
    · rw [zUdM_same (by omega), zUd_same (by omega)]
    · rw [zUdM_same (by omega), zUd_same (by omega)]
    · rw [zUdM_same (by omega)]
      unfold zUd
      rw [zU_same]; rfl
    · rw [zUdM_same (by omega), zUd_same (by omega)]
  · rw [hks, show (0 : Int32) = nI 0 from rfl, nI_eq (by omega) (by omega)] at h7 --NO
    refine wx_bipush (v := (-2)) dX8_undo_10 (by decide) ?_
    refine wx_iret dX8_undo_12 rfl rfl (Or.inl rfl) ?_
    exact hK _ _ (fun K' h => s_X9_undo_no (by rw [hksM, h7]; rfl) (h mm (zIn_0 hI hb)))
theorem op_replay {d : Nat} {K : List Value → zS → Prop} {mm : zM} {sc : Nat → Int32} {ln b n : Nat} {a0 a1 : Int32} (hI : zIn sc ln n b mm) (hb : b < 1000) (hK : ∀ (x : Int32) (m1 : zM), zAgr sc ln (b + 1) (d + 80) mX9_replay [.ref 128, .int a0, .int a1] (.int x) m1 → K [.int x] (zG m1))  : wm (d + 80) mX8_replay [.ref 0, .int a0, .int a1] (zG mm) K := by
  obtain ⟨hn4, hn16, hb1000, hz0, hz1⟩ := hI.1
  obtain ⟨⟨k, hB⟩, hP⟩ := hI.2.2.2.1
  have hk60 := hB.2.2.2.2.2.2.1
  have hks := hB.2.2.2.2.1
  have hksM := hB.2.2.2.2.2.1
  refine wm_of2 (L0 := [some (.ref 0), some (.int a0), some (.int a1)]) zCm_X8_replay (Or.inl rfl) (Nat.le_of_ble_eq_true rfl) rfl ?_
  refine wx_aload_n (i := 0) dX8_replay_0 rfl rfl ?_
  refine wx_iload_n (i := 1) dX8_replay_1 rfl rfl ?_
  refine wx_V1 dX8_replay_2 zPV_X8_isZone zLk_X8_95 rfl (Nat.le_of_ble_eq_true rfl) (Nat.le_of_ble_eq_true rfl) (Or.inr rfl) ?_
  refine s_X8_isZone _ ?_
  rw [hz0]
  refine wx_r1 ?_
  refine wx_eqb (tgt := 23) dX8_replay_5 (by decide) (fun h5 => ?_) (fun h5 => ?_)
  · have hbad := h5 --A
    refine wx_ldc dX8_replay_23 zKc_X8_101 ?_
    refine wx_iret dX8_replay_25 rfl rfl (Or.inl rfl) ?_
    exact hK _ _ (fun K' h => s_X9_replay_bad hz1 (fun w => hbad w.1) (h mm (zIn_0 hI hb)))
  · obtain ⟨z, e1, e1l⟩ := zNat (a := a0) (m := (n : Int) - 1) (by omega) (by have := h5; rw [zl_1, zi_nI, zi_sub] at this; exact this)
    subst e1
    refine wx_iload_n (i := 2) dX8_replay_8 rfl rfl ?_
    refine wx_iconst (v := 0) dX8_replay_9 (by decide) ?_
    refine wx_aload_n (i := 0) dX8_replay_10 rfl rfl ?_
    refine wx_getRG (k := 0) (t := 17) dX8_replay_11 zF_X8_35 zKo_0 rfl (Nat.le_of_ble_eq_true rfl) zRf_0_3 ?_
    refine wx_V0 dX8_replay_14 zPV_X0_howMany zLk_X8_166 rfl (Nat.le_of_ble_eq_true rfl) (Nat.le_of_ble_eq_true rfl) (Or.inr rfl) ?_
    refine s_X0_howMany ?_
    refine wx_r1 ?_
    refine wx_S3 dX8_replay_17 zPS_X8_within zLk_X8_73 (Nat.le_of_ble_eq_true rfl) (Or.inr rfl) ?_
    refine s_X8_within _ _ _ ?_
    refine wx_r1 ?_
    refine wx_neb (tgt := 26) dX8_replay_20 (by decide) (fun h20 => ?_) (fun h20 => ?_)
    · obtain ⟨i, e2, e2l⟩ := zNat (a := a1) (m := (k : Int)) (by omega) (by have := h20; rw [hks, zi_nI] at this; exact this)
      subst e2 --OK
      refine wx_aload_n (i := 0) dX8_replay_26 rfl rfl ?_
      refine wx_getRG (k := 0) (t := 17) dX8_replay_27 zF_X8_35 zKo_0 rfl (Nat.le_of_ble_eq_true rfl) zRf_0_3 ?_
      refine wx_iload_n (i := 1) dX8_replay_30 rfl rfl ?_
      refine wx_iload_n (i := 2) dX8_replay_31 rfl rfl ?_
      refine wx_V2 dX8_replay_32 zPV_X0_replayed zLk_X8_170 rfl (Nat.le_of_ble_eq_true rfl) (Nat.le_of_ble_eq_true rfl) (Or.inr rfl) ?_
      refine s_X0_replayed (show z < 16 by omega) (show i ≤ k by omega) hk60 hks (fun j hj => ?ht) (fun j hj => ?hzz) ?hgo
      case ht =>
        obtain ⟨t, t1, t2, _⟩ := (hB.2.2.2.2.2.2.2 j hj).1
        exact ⟨t, t1, t2⟩
      case hzz =>
        obtain ⟨w, w1, w2, _⟩ := (hB.2.2.2.2.2.2.2 j hj).2.1
        exact ⟨w, by omega, w2⟩
      refine wx_r1 ?_
      refine wx_iret dX8_replay_35 rfl rfl (Or.inl rfl) ?_
      refine hK _ _ (fun K' h => s_X9_replay_ok hz1 (show z < 16 by omega) (show i ≤ k by omega) hk60 (fun j hj => ?_) (fun j hj => ?_) h5 (by rw [hksM, ← hks]; exact h20) ?_)
      · obtain ⟨t, t1, _, t3⟩ := (hB.2.2.2.2.2.2.2 j hj).1
        exact ⟨t, t1, t3⟩
      · obtain ⟨w, w1, _, w3⟩ := (hB.2.2.2.2.2.2.2 j hj).2.1
        exact ⟨w, by omega, w3⟩
      rw [← hB.2.1 z (by omega), ← zRe_cg hn16 (by omega) hB i (by omega)]
      exact h mm (zIn_0 hI hb)
    · have hbad := h20 --B
      refine wx_ldc dX8_replay_23 zKc_X8_101 ?_
      refine wx_iret dX8_replay_25 rfl rfl (Or.inl rfl) ?_
      exact hK _ _ (fun K' h => s_X9_replay_bad hz1 (fun w => hbad (by rw [hks, ← hksM]; exact w.2)) (h mm (zIn_0 hI hb)))
