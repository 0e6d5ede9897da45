/-! calls: work, count -/
theorem zCnt_cg {f g : Nat → Nat} : ∀ {z}, (∀ i, i < z → f i = g i) → zCnt f z = zCnt g z
  | 0, _ => rfl
  | z + 1, h => by
    show zCnt f z + (if 0 < f z then 1 else 0) = zCnt g z + (if 0 < g z then 1 else 0)
    rw [zCnt_cg (fun i hi => h i (by omega)), h z (by omega)]
theorem zWk_cg {n t k : Nat} {f g : Nat → Nat} {mm : zM} : ∀ {z}, (∀ i, i < z → f i = g i) → zWk n t f k mm z = zWk n t g k mm z
  | 0, _ => rfl
  | z + 1, h => by
    have e1 := zWk_cg (n := n) (t := t) (k := k) (mm := mm) (fun i (hi : i < z) => h i (show i < z + 1 by omega))
    have e2 := zCnt_cg (fun i (hi : i < z) => h i (show i < z + 1 by omega))
    have e3 := h z (by omega)
    by_cases w : 0 < f z
    · rw [zWk_y w, zWk_y (by rw [← e3]; exact w), e1, e2, e3]
    · rw [zWk_n w, zWk_n (by rw [← e3]; exact w), e1]
theorem zWk_10 {n t k : Nat} {f : Nat → Nat} {mm : zM} : ∀ z, zWk n t f k mm z 17 10 = mm 17 10 + nI (zCnt f z)
  | 0 => (Int32.add_zero _).symm
  | z + 1 => by
    by_cases w : 0 < f z
    · rw [zWk_y w, zDo_24.2.2.2, zWk_10 z, zCnt_y w, ← nI_1, Int32.add_assoc]
    · rw [zWk_n w, zCnt_n w]; exact zWk_10 z
theorem zWk_0 {n t k : Nat} {f : Nat → Nat} {mm : zM} : ∀ {z}, zCnt f z = 0 → zWk n t f k mm z = mm
  | 0, _ => rfl
  | z + 1, h => by
    by_cases w : 0 < f z
    · rw [zCnt_y w] at h; omega
    · rw [zCnt_n w] at h
      rw [zWk_n w]; exact zWk_0 h
/-- the strokes of a plan, done in both -/
theorem zBR_wk {n k t : Nat} {f : Nat → Nat} {a b : zM} (h : zBR n k a b) (ht : t < 3) : ∀ z, z ≤ n → k + zCnt f z ≤ 60 → zBR n (k + zCnt f z) (zWk n t f k a z) (zWkM n t f k b z)
  | 0, _, _ => h
  | z + 1, hz, hk => by
    by_cases w : 0 < f z
    · rw [zCnt_y w] at hk ⊢
      rw [zWk_y w, zWkM_y w]
      show zBR n (k + zCnt f z + 1) _ _
      exact zBR_do (k := k + zCnt f z) (zBR_wk h ht z (by omega) (by omega)) (by omega) (by omega) ht
    · rw [zCnt_n w] at hk ⊢
      rw [zWk_n w, zWkM_n w]
      exact zBR_wk h ht z (by omega) hk
theorem zWkM_in {n t : Nat} {f : Nat → Nat} {k : Nat} {mm : zM} {c j : Nat} (h : ¬ (c = 129 ∨ (136 ≤ c ∧ c ≤ 139) ∨ (c = 128 ∧ j = 14))) : ∀ z, zWkM n t f k mm z c j = mm c j
  | 0 => rfl
  | z + 1 => by
    by_cases q : 0 < f z
    · rw [zWkM_y q, zDoM_same (by omega)]; exact zWkM_in h z
    · rw [zWkM_n q]; exact zWkM_in h z
theorem zWk_in {n t : Nat} {f : Nat → Nat} {k : Nat} {mm : zM} {c j : Nat} (h : ¬ (17 ≤ c ∧ c ≤ 87)) : ∀ z, k + zCnt f z ≤ 60 → zWk n t f k mm z c j = mm c j := fun z hk => by
  rw [zWk_out (by omega) z hk]
theorem op_work {d : Nat} {K : List Value → zS → Prop} {mm : zM} {sc : Nat → Int32} {ln b n : Nat} {a0 : Int32} (hI : zIn sc ln n b mm) (hb : b < 1000) (hK : ∀ (x : Int32) (m1 : zM), zAgr sc ln (b + 1) (d + 80) mX9_work [.ref 128, .int a0] (.int x) m1 → K [.int x] (zG m1))  : wm (d + 80) mX8_work [.ref 0, .int a0] (zG mm) K := by
  obtain ⟨hn4, hn16, hb1000, hz0, hz1⟩ := hI.1
  obtain ⟨⟨k, hB⟩, hP⟩ := hI.2.2.2.1
  have hPI := zPx_PI hP ⟨hn4, hn16⟩ hb1000
  have hk60 := hB.2.2.2.2.2.2.1
  have hks := hB.2.2.2.2.1
  have hksM := hB.2.2.2.2.2.1
  refine wm_of2 (L0 := [some (.ref 0), some (.int a0), none]) zCm_X8_work (Or.inl rfl) (Nat.le_of_ble_eq_true rfl) rfl ?_
  refine wx_iload_n (i := 1) dX8_work_0 rfl rfl ?_
  refine wx_S1 dX8_work_1 zPS_X8_isTool zLk_X8_146 (Nat.le_of_ble_eq_true rfl) (Or.inr rfl) ?_
  refine s_X8_isTool _ ?_
  refine wx_r1 ?_
  refine wx_neb (tgt := 9) dX8_work_4 (by decide) (fun h4 => ?_) (fun h4 => ?_)
  · skip
    refine wx_aload_n (i := 0) dX8_work_9 rfl rfl ?_
    refine wx_getRG (k := 0) (t := 88) dX8_work_10 zF_X8_44 zKo_0 rfl (Nat.le_of_ble_eq_true rfl) zRf_0_4 ?_
    refine wx_iload_n (i := 1) dX8_work_13 rfl rfl ?_
    refine wx_V1 dX8_work_14 zPV_X4_hasPlan zLk_X8_173 rfl (Nat.le_of_ble_eq_true rfl) (Nat.le_of_ble_eq_true rfl) (Or.inr rfl) ?_
    obtain ⟨t, e1, e1l⟩ := zNat (m := 2) (by omega) h4
    subst e1
    obtain ⟨pe1, pe2⟩ := plan_eq hB (show t < 3 by omega) hn16
    have pe3 := zCnt_cg pe2
    refine s_X4_hasPlan hPI (show t < 3 by omega) (fun m1 f1 i1 v1 => ?_)
    refine wx_r1 ?_
    refine wx_neb (tgt := 23) dX8_work_17 (by decide) (fun h17 => ?_) (fun h17 => ?_)
    · rw [(zPC_fq f1 (show t < 3 by omega)).1] at h17
      refine wx_aload_n (i := 0) dX8_work_23 rfl rfl ?_
      refine wx_getRG (k := 0) (t := 88) dX8_work_24 zF_X8_44 zKo_0 rfl (Nat.le_of_ble_eq_true rfl) zRf_0_4 ?_
      refine wx_iload_n (i := 1) dX8_work_27 rfl rfl ?_
      refine wx_V1 dX8_work_28 zPV_X4_strokesOf zLk_X8_185 rfl (Nat.le_of_ble_eq_true rfl) (Nat.le_of_ble_eq_true rfl) (Or.inr rfl) ?_
      refine s_X4_strokesOf i1 (show t < 3 by omega) (by rw [(zPC_fq f1 (show t < 3 by omega)).1]; exact h17) (fun m2 f2 i2 v2 => ?_)
      have f12 : zFq mm m2 := zFq_trans f1 f2
      have zPM_e : zPM n t m2 = zPM n t mm := (zPC_fq f12 (show t < 3 by omega)).2
      have hcl := zCnt_le (zPmi n (mm 129) (zPm mm t) (mm 128 13)) n
      refine wx_r1 ?_
      refine wx_istore_n (i := 2) dX8_work_31 rfl (Nat.le_of_ble_eq_true rfl) rfl ?_
      refine wx_iload_n (i := 2) dX8_work_32 rfl rfl ?_
      refine wx_aload_n (i := 0) dX8_work_33 rfl rfl ?_
      refine wx_getRG (k := 0) (t := 17) dX8_work_34 zF_X8_35 zKo_0 rfl (Nat.le_of_ble_eq_true rfl) zRf_0_3 ?_
      refine wx_V0 dX8_work_37 zPV_X0_roomLeft zLk_X8_159 rfl (Nat.le_of_ble_eq_true rfl) (Nat.le_of_ble_eq_true rfl) (Or.inr rfl) ?_
      refine s_X0_roomLeft ?_
      refine wx_r1 ?_
      refine wx_icmp_le (tgt := 46) dX8_work_40 (by decide) (fun h40 => ?_) (fun h40 => ?_)
      · rw [zPM_e, pe3, f12 17 (by omega), hks, zl_60, zi_nI, zi_nI, zi_sub, zi_le (by omega) (by omega)] at h40 --OK
        refine wx_aload_n (i := 0) dX8_work_46 rfl rfl ?_
        refine wx_getRG (k := 0) (t := 88) dX8_work_47 zF_X8_44 zKo_0 rfl (Nat.le_of_ble_eq_true rfl) zRf_0_4 ?_
        refine wx_iload_n (i := 1) dX8_work_50 rfl rfl ?_
        refine wx_V1 dX8_work_51 zPV_X4_carryOut zLk_X8_188 rfl (Nat.le_of_ble_eq_true rfl) (Nat.le_of_ble_eq_true rfl) (Or.inr rfl) ?_
        refine s_X4_carryOut i2 (show t < 3 by omega) (by rw [(zPC_fq f12 (show t < 3 by omega)).1]; exact h17) (k := k) (by rw [f12 17 (by omega)]; exact hks) (by rw [zPM_e, pe3]; omega) (fun m3 f3 i3 v3 => ?_)
        refine wx_r0 ?_
        refine wx_iload_n (i := 2) dX8_work_54 rfl rfl ?_
        refine wx_iret dX8_work_55 rfl rfl (Or.inl rfl) ?_
        have hcnt16 := zCnt_le (zPmi n (mm 129) (zPm mm t) (mm 128 13)) n
        rw [(zPC_fq (zFq_trans f12 f3) (show t < 3 by omega)).2, zWk_cg pe2]
        rw [show zCnt (zPM n t m2) n = zCnt (zPmi n (mm 129) (zPm mm t) (mm 128 13)) n from by rw [zPM_e, pe3]]
        have f13 : zFq mm m3 := zFq_trans f12 f3
        have hle : k + zCnt (zPmi n (mm 129) (zPm mm t) (mm 128 13)) n ≤ 60 := by omega
        have hw : ∀ c, c < 17 ∨ 87 < c → zWk n t (zPmi n (mm 129) (zPm mm t) (mm 128 13)) k m3 n c = m3 c := fun c w => zWk_out w n hle
        have fM : ∀ c, 97 < c → zWk n t (zPmi n (mm 129) (zPm mm t) (mm 128 13)) k m3 n c = mm c := fun c w => by rw [hw c (by omega), f13 c (by omega)]
        refine hK _ _ (fun K' h => s_X9_work_ok (n := n) (h := mm 129) (p := zPm mm t) (r := mm 128 13) (by rw [fM 128 (by omega)]; exact hz1) ⟨hn4, hn16⟩ (show t < 3 by omega) (fM 129 (by omega)) (funext fun e => congrFun (fM 135 (by omega)) (5 * t + e)) (by rw [fM 128 (by omega)]) (k := k) (by rw [fM 128 (by omega)]; exact hksM) h4 (by rw [← pe1]; exact h17) hle (fun m6 g => ?_))
        have b1 : zBR n k m3 m6 := zBR_a (zBR_b hB (fun c j w => by rw [g c (by omega) (by omega), fM c (by omega)])) (fun c j w1 w2 => by rw [f13 c (by omega)])
        have b2 := zBR_wk (f := (zPmi n (mm 129) (zPm mm t) (mm 128 13))) b1 (show t < 3 by omega) n (Nat.le_refl n) hle
        have b3 : zBR n (k + zCnt (zPmi n (mm 129) (zPm mm t) (mm 128 13)) n) (zWkM n t (zPmi n (mm 129) (zPm mm t) (mm 128 13)) k m6 n) (zWkM n t (zPmi n (mm 129) (zPm mm t) (mm 128 13)) k m6 n) := zBR_a b2 (fun c j w1 w2 => by rw [zWkM_in (by omega), g c (by omega) (by omega)])
        have f7 : ∀ c j, c ≤ 97 → zWkM n t (zPmi n (mm 129) (zPm mm t) (mm 128 13)) k m6 n c j = zWk n t (zPmi n (mm 129) (zPm mm t) (mm 128 13)) k m3 n c j := fun c j w => by rw [zWkM_in (by omega), g c (by omega) (by omega)]
        have hPx3 := zPI_Px hP hb1000 f13 i3
        refine h _ (zIn_B hI hb (fun c j w => ?_) ⟨⟨k + zCnt (zPmi n (mm 129) (zPm mm t) (mm 128 13)) n, b3⟩, ?_⟩)
        · rw [zWkM_in (by omega), g c (by omega) (by omega), zWk_in (by omega) n hle, f13 c (by omega)]
        · by_cases z0 : zCnt (zPmi n (mm 129) (zPm mm t) (mm 128 13)) n = 0
          · rw [zWk_0 z0] at f7
            exact zPx_fr hPx3 (Nat.le_succ b) (fun c j w1 w2 => f7 c j w2)
          · refine zPx_up (k := zCnt (zPmi n (mm 129) (zPm mm t) (mm 128 13)) n) hPx3 ?_ (by omega) ?_ (fun t2 u => ?_)
            · rw [f7 17 7 (by omega), zWk_17 (by omega) n hle]
            · rw [f7 17 10 (by omega), zWk_10]
            · rw [f7 95 t2 (by omega), hw 95 (by omega)]
      · rw [zPM_e, pe3, f12 17 (by omega), hks, zl_60, zi_nI, zi_nI, zi_sub, zi_le (by omega) (by omega)] at h40 --FULL
        refine wx_bipush (v := (-3)) dX8_work_43 (by decide) ?_
        refine wx_iret dX8_work_45 rfl rfl (Or.inl rfl) ?_
        exact hK _ _ (fun K' h => s_X9_work_full (n := n) (h := mm 129) (p := zPm mm t) (r := mm 128 13) (by rw [f12 128 (by omega)]; exact hz1) ⟨hn4, hn16⟩ (show t < 3 by omega) (f12 129 (by omega)) (by unfold zPm; rw [f12 135 (by omega)]) (by rw [f12 128 (by omega)]) (k := k) (by rw [f12 128 (by omega)]; exact hksM) hk60 h4 (by rw [← pe1]; exact h17) (by omega) (fun m3 g => h m3 (zFq_zn hI hb f12 i2 (fun c w => g c (by omega) (by omega)))))
    · rw [(zPC_fq f1 (show t < 3 by omega)).1] at h17 --NO
      refine wx_bipush (v := (-2)) dX8_work_20 (by decide) ?_
      refine wx_iret dX8_work_22 rfl rfl (Or.inl rfl) ?_
      exact hK _ _ (fun K' h => s_X9_work_no (n := n) (h := mm 129) (p := zPm mm t) (r := mm 128 13) (by rw [f1 128 (by omega)]; exact hz1) ⟨hn4, hn16⟩ (show t < 3 by omega) (f1 129 (by omega)) (by unfold zPm; rw [f1 135 (by omega)]) (by rw [f1 128 (by omega)]) h4 (by rw [← pe1]; exact h17) (fun m3 g => h m3 (zFq_zn hI hb f1 i1 (fun c w => g c (by omega) (by omega)))))
  · have hbad := h4 --A
    refine wx_iconst (v := (-1)) dX8_work_7 (by decide) ?_
    refine wx_iret dX8_work_8 rfl rfl (Or.inl rfl) ?_
    exact hK _ _ (fun K' h => s_X9_work_bad (fun w => hbad w) (h mm (zIn_0 hI hb)))
