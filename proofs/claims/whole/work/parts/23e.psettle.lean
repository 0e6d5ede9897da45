/-! the planner of the class: settle and what it tells -/
/-- the cost of tool t's plan, and its minutes -/
noncomputable def zPC (n t : Nat) (mm : zM) : Nat := zCo n (mm 18) (mm (20 + 1 + t)) (mm 17 9) (n + 2) 0
noncomputable def zPM (n t : Nat) (mm : zM) : Nat → Nat := zPmi n (mm 18) (mm (20 + 1 + t)) (mm 17 9)
/-- what is kept of tool t's plan is right -/
def zPVl (n t : Nat) (mm : zM) : Prop := mm 88 8 = nI n ∧ mm 94 t = nI (zPC n t mm) ∧ (zPC n t mm < 1000 → ∀ z, z < n → mm (90 + 1 + t) z = nI (zPM n t mm z))
/-- the planner is in order -/
def zPI (n : Nat) (mm : zM) : Prop := mm 17 7 = nI n ∧ 4 ≤ n ∧ n ≤ 16 ∧ ∃ c : Int, mm 17 10 = zi c ∧ 0 ≤ c ∧ c ≤ 1000000 ∧ ∀ t, t < 3 → ∃ e : Int, mm 95 t = zi e ∧ -1 ≤ e ∧ e ≤ c ∧ (e = c → zPVl n t mm)
def zFq (mm m2 : zM) : Prop := ∀ c, c < 88 ∨ 97 < c → m2 c = mm c
theorem zFq_refl (mm : zM) : zFq mm mm := fun _ _ => rfl
theorem zFq_trans {a b c : zM} (h : zFq a b) (g : zFq b c) : zFq a c := fun k w => (g k w).trans (h k w)
theorem zPC_fq {n t : Nat} {mm m2 : zM} (f : zFq mm m2) (ht : t < 3) : zPC n t m2 = zPC n t mm ∧ zPM n t m2 = zPM n t mm := by
  unfold zPC zPM
  rw [f 18 (by omega), f (20 + 1 + t) (by omega), f 17 (by omega)]
  exact ⟨rfl, rfl⟩
theorem zPVl_fq {n t : Nat} {mm m2 : zM} (h : zPVl n t mm) (f : zFq mm m2) (ht : t < 3) (h8 : m2 88 8 = mm 88 8) (h4 : m2 94 t = mm 94 t) (hr : m2 (90 + 1 + t) = mm (90 + 1 + t)) : zPVl n t m2 := by
  obtain ⟨e1, e2⟩ := zPC_fq (n := n) f ht
  refine ⟨h8.trans h.1, ?_, ?_⟩
  · rw [e1, h4]; exact h.2.1
  · rw [e1, e2, hr]; exact h.2.2
theorem zPset {n t : Nat} {mm mX : zM} (hI : zPI n mm) (ht : t < 3) (f : zFq mm mX) (h8 : mX 88 8 = nI n) (h4 : mX 94 t = nI (zPC n t mm)) (h4' : ∀ t2, t2 ≠ t → mX 94 t2 = mm 94 t2) (h5 : mX 95 = mm 95) (hr : ∀ t2, t2 < 3 → t2 ≠ t → mX (90 + 1 + t2) = mm (90 + 1 + t2)) (hm : zPC n t mm < 1000 → ∀ z, z < n → mX (90 + 1 + t) z = nI (zPM n t mm z)) :
    zFq mm (zU mX 95 t (mX 17 10)) ∧ zPI n (zU mX 95 t (mX 17 10)) ∧ zPVl n t (zU mX 95 t (mX 17 10)) := by
  have f2 : zFq mm (zU mX 95 t (mX 17 10)) := fun c w => (zU_ne (by omega)).trans (f c w)
  have hv : zPVl n t (zU mX 95 t (mX 17 10)) := by
    obtain ⟨e1, e2⟩ := zPC_fq (n := n) f2 ht
    refine ⟨by rw [zU_ne (by decide)]; exact h8, ?_, ?_⟩
    · rw [e1, zU_ne (by decide)]; exact h4
    · rw [e1, e2, zU_ne (by omega)]; exact hm
  refine ⟨f2, ?_, hv⟩
  obtain ⟨i1, i2, i3, c, i4, i5, i6, i7⟩ := hI
  refine ⟨by rw [f2 17 (by omega)]; exact i1, i2, i3, c, by rw [f2 17 (by omega)]; exact i4, i5, i6, fun t2 h2 => ?_⟩
  by_cases e : t2 = t
  · rw [e]
    refine ⟨c, ?_, by omega, Int.le_refl _, fun _ => hv⟩
    rw [zU_same, f 17 (by omega)]; exact i4
  · obtain ⟨e0, a1, a2, a3, a4⟩ := i7 t2 h2
    refine ⟨e0, ?_, a2, a3, fun w => ?_⟩
    · rw [zU_off (fun q => e q.2), h5]; exact a1
    · have hv2 := a4 w
      exact zPVl_fq hv2 f2 h2 (by rw [zU_ne (by decide), h8]; exact hv2.1.symm) (by rw [zU_ne (by decide)]; exact h4' t2 e) (by rw [zU_ne (by omega)]; exact hr t2 h2 e)
theorem s_X4_costTop {d : Nat} {K : List Value → zS → Prop} {mm : zM} {n : Nat} {h p : Nat → Int32} {r : Int32} (hM : zMz n h p r mm) (hK : ∀ m2, zPf mm m2 → zMz n h p r m2 → zKw m2 0 0 → K [.int (nI (zCo n h p r (n + 2) 0))] (zG m2)) : wm (d + 60) mX4_costFrom [.ref 88, .int 0, .int 0] (zG mm) K := by
  have h1 := zCF_60 (d := d) hM.1.2.1 (Nat.le_refl (n + 2)) K mm 0 (by omega) hM (fun m2 a b c => hK m2 a b (by have := c (by omega); rw [Nat.sub_self] at this; exact this))
  rw [Nat.sub_self] at h1
  exact h1
theorem s_X4_settle {d : Nat} {K : List Value → zS → Prop} {mm : zM} {n t : Nat} (hI : zPI n mm) (ht : t < 3) (hK : ∀ m2 : zM, zFq mm m2 → zPI n m2 → zPVl n t m2 → K [] (zG m2))  : wm (d + 64) mX4_settle [.ref 88, .int (nI t)] (zG mm) K := by
  refine wm_of2 (L0 := [some (.ref 88), some (.int (nI t))]) zCm_X4_settle (Or.inl rfl) (Nat.le_of_ble_eq_true rfl) rfl ?_
  refine wx_aload_n (i := 0) dX4_settle_0 rfl rfl ?_
  refine wx_getRG (k := 88) (t := 95) dX4_settle_1 zF_X4_23 zKo_88 rfl (Nat.le_of_ble_eq_true rfl) zRf_88_4 ?_
  refine wx_iload_n (i := 1) dX4_settle_4 rfl rfl ?_
  refine wx_ialdG (k := 95) dX4_settle_5 zK_95 (Nat.le_of_ble_eq_true rfl) rfl ?_ ?_
  · exact ⟨by omega, by decide⟩
  refine wx_aload_n (i := 0) dX4_settle_6 rfl rfl ?_
  refine wx_getRG (k := 88) (t := 17) dX4_settle_7 zF_X4_32 zKo_88 rfl (Nat.le_of_ble_eq_true rfl) zRf_88_0 ?_
  refine wx_V0 dX4_settle_10 zPV_X0_howManyChanges zLk_X4_56 rfl (Nat.le_of_ble_eq_true rfl) (Nat.le_of_ble_eq_true rfl) (Or.inr rfl) ?_
  refine s_X0_howManyChanges ?_
  refine wx_r1 ?_
  refine wx_icmp_ne (tgt := 17) dX4_settle_13 (by decide) (fun h13 => ?_) (fun h13 => ?_)
  · skip
    refine wx_aload_n (i := 0) dX4_settle_17 rfl rfl ?_
    refine wx_iload_n (i := 1) dX4_settle_18 rfl rfl ?_
    refine wx_V1 dX4_settle_19 zPV_X4_begin zLk_X4_60 rfl (Nat.le_of_ble_eq_true rfl) (Nat.le_of_ble_eq_true rfl) (Or.inr rfl) ?_
    refine s_X4_begin ⟨hI.2.1, hI.2.2.1⟩ ht hI.1 (fun mB hfB hMB => ?_)
    refine wx_r0 ?_
    refine wx_aload_n (i := 0) dX4_settle_22 rfl rfl ?_
    refine wx_getRG (k := 88) (t := 94) dX4_settle_23 zF_X4_20 zKo_88 rfl (Nat.le_of_ble_eq_true rfl) zRf_88_3 ?_
    refine wx_iload_n (i := 1) dX4_settle_26 rfl rfl ?_
    refine wx_aload_n (i := 0) dX4_settle_27 rfl rfl ?_
    refine wx_iconst (v := 0) dX4_settle_28 (by decide) ?_
    refine wx_iconst (v := 0) dX4_settle_29 (by decide) ?_
    refine wx_V2 dX4_settle_30 zPV_X4_costFrom zLk_X4_63 rfl (Nat.le_of_ble_eq_true rfl) (Nat.le_of_ble_eq_true rfl) (Or.inr rfl) ?_
    refine s_X4_costTop hMB (fun mC hfC hMC hkC => ?_)
    refine wx_r1 ?_
    refine wx_iastG (k := 94) dX4_settle_33 zK_94 (Nat.le_of_ble_eq_true rfl) rfl ?_ ?_
    · exact ⟨by omega, by decide⟩
    rw [show zCo n (mm 18) (mm (20 + 1 + t)) (mm 17 9) (n + 2) 0 = zPC n t mm from rfl]
    have hf0 : zFq mm (zU mC 94 t (nI (zPC n t mm))) := fun c w => (zU_ne (by omega)).trans ((hfC.1 c (by omega)).trans (hfB c (by omega) (by omega) (by omega) (by omega)))
    have h80 : zU mC 94 t (nI (zPC n t mm)) 88 8 = nI n := by rw [zU_ne (by decide)]; exact hMC.1.2.2.1
    have h40 : zU mC 94 t (nI (zPC n t mm)) 94 t = nI (zPC n t mm) := zU_same _ _ _ _
    have h4o : ∀ t2, t2 ≠ t → zU mC 94 t (nI (zPC n t mm)) 94 t2 = mm 94 t2 := fun t2 w => by rw [zU_off (fun q => w q.2), hfC.1 94 (by decide), hfB 94 (by decide) (by decide) (by decide) (by decide)]
    have h50 : zU mC 94 t (nI (zPC n t mm)) 95 = mm 95 := by rw [zU_ne (by decide), hfC.1 95 (by decide), hfB 95 (by decide) (by decide) (by decide) (by decide)]
    have hr0 : ∀ t2, t2 < 3 → zU mC 94 t (nI (zPC n t mm)) (90 + 1 + t2) = mm (90 + 1 + t2) := fun t2 w => by rw [zU_ne (by omega), hfC.1 _ (by omega), hfB _ (by omega) (by omega) (by omega) (by omega)]
    refine wx_aload_n (i := 0) dX4_settle_34 rfl rfl ?_
    refine wx_getRG (k := 88) (t := 94) dX4_settle_35 zF_X4_20 zKo_88 rfl (Nat.le_of_ble_eq_true rfl) zRf_88_3 ?_
    refine wx_iload_n (i := 1) dX4_settle_38 rfl rfl ?_
    refine wx_ialdG (k := 94) dX4_settle_39 zK_94 (Nat.le_of_ble_eq_true rfl) rfl ?_ ?_
    · exact ⟨by omega, by decide⟩
    rw [h40]
    refine wx_sipush (v := 1000) dX4_settle_40 (by decide) ?_
    refine wx_icmp_ge (tgt := 56) dX4_settle_43 (by decide) (fun h43 => ?_) (fun h43 => ?_)
    · have h43 : ¬ zPC n t mm < 1000 := fun w => nI_ge w (by omega) h43
      refine wx_aload_n (i := 0) dX4_settle_56 rfl rfl ?_
      refine wx_getRG (k := 88) (t := 95) dX4_settle_57 zF_X4_23 zKo_88 rfl (Nat.le_of_ble_eq_true rfl) zRf_88_4 ?_
      refine wx_iload_n (i := 1) dX4_settle_60 rfl rfl ?_
      refine wx_aload_n (i := 0) dX4_settle_61 rfl rfl ?_
      refine wx_getRG (k := 88) (t := 17) dX4_settle_62 zF_X4_32 zKo_88 rfl (Nat.le_of_ble_eq_true rfl) zRf_88_0 ?_
      refine wx_V0 dX4_settle_65 zPV_X0_howManyChanges zLk_X4_56 rfl (Nat.le_of_ble_eq_true rfl) (Nat.le_of_ble_eq_true rfl) (Or.inr rfl) ?_
      refine s_X0_howManyChanges ?_
      refine wx_r1 ?_
      refine wx_iastG (k := 95) dX4_settle_68 zK_95 (Nat.le_of_ble_eq_true rfl) rfl ?_ ?_
      · exact ⟨by omega, by decide⟩
      refine wx_vret dX4_settle_69 rfl (Or.inl rfl) ?_
      obtain ⟨w1, w2, w3⟩ := zPset (mX := zU mC 94 t (nI (zPC n t mm))) hI ht hf0 h80 h40 h4o h50 (fun t2 a _ => hr0 t2 a) (fun w => absurd w h43)
      exact hK _ w1 w2 w3
    · have h43 : zPC n t mm < 1000 := Nat.lt_of_not_le fun w => h43 (nI_le w (by have := zCo_le (n := n) (h := mm 18) (p := mm (20 + 1 + t)) (r := mm 17 9) (n + 2) 0; unfold zPC; omega))
      refine wx_aload_n (i := 0) dX4_settle_46 rfl rfl ?_
      refine wx_aload_n (i := 0) dX4_settle_47 rfl rfl ?_
      refine wx_getRG (k := 88) (t := 90) dX4_settle_48 zF_X4_17 zKo_88 rfl (Nat.le_of_ble_eq_true rfl) zRf_88_2 ?_
      refine wx_iload_n (i := 1) dX4_settle_51 rfl rfl ?_
      refine wx_aaldG (k := 90) (j := t) dX4_settle_52 zK_90 (Nat.le_of_ble_eq_true rfl) rfl ?_ ?_
      · exact ⟨by omega, by decide⟩
      refine wx_V1 dX4_settle_53 zPV_X4_traceMinutes zLk_X4_67 rfl (Nat.le_of_ble_eq_true rfl) (Nat.le_of_ble_eq_true rfl) (Or.inr rfl) ?_
      refine s_X4_traceMinutes ht (zMz_row hMC (fun c w => zU_ne (by omega))) (show zKw _ 0 0 from by unfold zKw; rw [zU_ne (by decide)]; exact hkC) h43 (fun mT hfT hrT => ?_)
      refine wx_r0 ?_
      refine wx_aload_n (i := 0) dX4_settle_56 rfl rfl ?_
      refine wx_getRG (k := 88) (t := 95) dX4_settle_57 zF_X4_23 zKo_88 rfl (Nat.le_of_ble_eq_true rfl) zRf_88_4 ?_
      refine wx_iload_n (i := 1) dX4_settle_60 rfl rfl ?_
      refine wx_aload_n (i := 0) dX4_settle_61 rfl rfl ?_
      refine wx_getRG (k := 88) (t := 17) dX4_settle_62 zF_X4_32 zKo_88 rfl (Nat.le_of_ble_eq_true rfl) zRf_88_0 ?_
      refine wx_V0 dX4_settle_65 zPV_X0_howManyChanges zLk_X4_56 rfl (Nat.le_of_ble_eq_true rfl) (Nat.le_of_ble_eq_true rfl) (Or.inr rfl) ?_
      refine s_X0_howManyChanges ?_
      refine wx_r1 ?_
      refine wx_iastG (k := 95) dX4_settle_68 zK_95 (Nat.le_of_ble_eq_true rfl) rfl ?_ ?_
      · exact ⟨by omega, by decide⟩
      refine wx_vret dX4_settle_69 rfl (Or.inl rfl) ?_
      obtain ⟨w1, w2, w3⟩ := zPset (mX := mT) hI ht (fun c w => (hfT c (by omega) (by omega)).trans (hf0 c w)) (by rw [hfT 88 (by decide) (by omega)]; exact h80) (by rw [hfT 94 (by decide) (by omega)]; exact h40) (fun t2 w => by rw [hfT 94 (by decide) (by omega)]; exact h4o t2 w) (by rw [hfT 95 (by decide) (by omega)]; exact h50) (fun t2 a b => by rw [hfT _ (by omega) (by omega)]; exact hr0 t2 a) (fun _ => hrT)
      exact hK _ w1 w2 w3
  · skip
    refine wx_vret dX4_settle_16 rfl (Or.inl rfl) ?_
    obtain ⟨i1, i2, i3, c, i4, i5, i6, i7⟩ := id hI
    obtain ⟨e, a1, a2, a3, a4⟩ := i7 t ht
    rw [a1, i4, zi_eq (by omega) (by omega)] at h13
    exact hK mm (zFq_refl mm) hI (a4 h13)
theorem s_X4_hasPlan {d : Nat} {K : List Value → zS → Prop} {mm : zM} {n t : Nat} (hI : zPI n mm) (ht : t < 3) (hK : ∀ m2 : zM, zFq mm m2 → zPI n m2 → zPVl n t m2 → K [.int (if zPC n t m2 < 1000 then 1 else 0)] (zG m2))  : wm (d + 65) mX4_hasPlan [.ref 88, .int (nI t)] (zG mm) K := by
  refine wm_of2 (L0 := [some (.ref 88), some (.int (nI t))]) zCm_X4_hasPlan (Or.inl rfl) (Nat.le_of_ble_eq_true rfl) rfl ?_
  refine wx_aload_n (i := 0) dX4_hasPlan_0 rfl rfl ?_
  refine wx_iload_n (i := 1) dX4_hasPlan_1 rfl rfl ?_
  refine wx_V1 dX4_hasPlan_2 zPV_X4_settle zLk_X4_42 rfl (Nat.le_of_ble_eq_true rfl) (Nat.le_of_ble_eq_true rfl) (Or.inr rfl) ?_
  refine s_X4_settle hI ht (fun m2 hf hI2 hV => ?_)
  have hCb := zCo_le (n := n) (h := m2 18) (p := m2 (20 + 1 + t)) (r := m2 17 9) (n + 2) 0
  rw [show zCo n (m2 18) (m2 (20 + 1 + t)) (m2 17 9) (n + 2) 0 = zPC n t m2 from rfl] at hCb
  refine wx_r0 ?_
  refine wx_aload_n (i := 0) dX4_hasPlan_5 rfl rfl ?_
  refine wx_getRG (k := 88) (t := 94) dX4_hasPlan_6 zF_X4_20 zKo_88 rfl (Nat.le_of_ble_eq_true rfl) zRf_88_3 ?_
  refine wx_iload_n (i := 1) dX4_hasPlan_9 rfl rfl ?_
  refine wx_ialdG (k := 94) dX4_hasPlan_10 zK_94 (Nat.le_of_ble_eq_true rfl) rfl ?_ ?_
  · exact ⟨by omega, by decide⟩
  rw [hV.2.1]
  refine wx_sipush (v := 1000) dX4_hasPlan_11 (by decide) ?_
  refine wx_icmp_ge (tgt := 21) dX4_hasPlan_14 (by decide) (fun h14 => ?_) (fun h14 => ?_)
  · have h14 : ¬ zPC n t m2 < 1000 := fun w => nI_ge w (by omega) h14
    refine wx_iconst (v := 0) dX4_hasPlan_21 (by decide) ?_
    refine wx_iret dX4_hasPlan_22 rfl rfl (Or.inl rfl) ?_
    first | exact zki (hK m2 hf hI2 hV) (if_pos h14) | exact zki (hK m2 hf hI2 hV) (if_neg h14)
  · have h14 : zPC n t m2 < 1000 := Nat.lt_of_not_le fun w => h14 (nI_le w (by omega))
    refine wx_iconst (v := 1) dX4_hasPlan_17 (by decide) ?_
    refine wx_goto (tgt := 22) dX4_hasPlan_18 (by decide) ?_
    refine wx_iret dX4_hasPlan_22 rfl rfl (Or.inl rfl) ?_
    first | exact zki (hK m2 hf hI2 hV) (if_pos h14) | exact zki (hK m2 hf hI2 hV) (if_neg h14)
theorem s_X4_together {d : Nat} {K : List Value → zS → Prop} {mm : zM} {n t : Nat} (hI : zPI n mm) (ht : t < 3) (hK : ∀ m2 : zM, zFq mm m2 → zPI n m2 → zPVl n t m2 → K [.int (nI (zPC n t m2))] (zG m2))  : wm (d + 65) mX4_together [.ref 88, .int (nI t)] (zG mm) K := by
  refine wm_of2 (L0 := [some (.ref 88), some (.int (nI t))]) zCm_X4_together (Or.inl rfl) (Nat.le_of_ble_eq_true rfl) rfl ?_
  refine wx_aload_n (i := 0) dX4_together_0 rfl rfl ?_
  refine wx_iload_n (i := 1) dX4_together_1 rfl rfl ?_
  refine wx_V1 dX4_together_2 zPV_X4_settle zLk_X4_42 rfl (Nat.le_of_ble_eq_true rfl) (Nat.le_of_ble_eq_true rfl) (Or.inr rfl) ?_
  refine s_X4_settle hI ht (fun m2 hf hI2 hV => ?_)
  have hCb := zCo_le (n := n) (h := m2 18) (p := m2 (20 + 1 + t)) (r := m2 17 9) (n + 2) 0
  rw [show zCo n (m2 18) (m2 (20 + 1 + t)) (m2 17 9) (n + 2) 0 = zPC n t m2 from rfl] at hCb
  refine wx_r0 ?_
  refine wx_aload_n (i := 0) dX4_together_5 rfl rfl ?_
  refine wx_getRG (k := 88) (t := 94) dX4_together_6 zF_X4_20 zKo_88 rfl (Nat.le_of_ble_eq_true rfl) zRf_88_3 ?_
  refine wx_iload_n (i := 1) dX4_together_9 rfl rfl ?_
  refine wx_ialdG (k := 94) dX4_together_10 zK_94 (Nat.le_of_ble_eq_true rfl) rfl ?_ ?_
  · exact ⟨by omega, by decide⟩
  refine wx_iret dX4_together_11 rfl rfl (Or.inl rfl) ?_
  rw [hV.2.1]
  exact hK m2 hf hI2 hV
theorem s_X4_minutesAt {d : Nat} {K : List Value → zS → Prop} {mm : zM} {n t : Nat} (hI : zPI n mm) (ht : t < 3) {z : Nat} (hz : z < n) (hc : zPC n t mm < 1000) (hK : ∀ m2 : zM, zFq mm m2 → zPI n m2 → zPVl n t m2 → K [.int (nI (zPM n t m2 z))] (zG m2))  : wm (d + 65) mX4_minutesAt [.ref 88, .int (nI t), .int (nI z)] (zG mm) K := by
  refine wm_of2 (L0 := [some (.ref 88), some (.int (nI t)), some (.int (nI z))]) zCm_X4_minutesAt (Or.inl rfl) (Nat.le_of_ble_eq_true rfl) rfl ?_
  refine wx_aload_n (i := 0) dX4_minutesAt_0 rfl rfl ?_
  refine wx_iload_n (i := 1) dX4_minutesAt_1 rfl rfl ?_
  refine wx_V1 dX4_minutesAt_2 zPV_X4_settle zLk_X4_42 rfl (Nat.le_of_ble_eq_true rfl) (Nat.le_of_ble_eq_true rfl) (Or.inr rfl) ?_
  refine s_X4_settle hI ht (fun m2 hf hI2 hV => ?_)
  have hCb := zCo_le (n := n) (h := m2 18) (p := m2 (20 + 1 + t)) (r := m2 17 9) (n + 2) 0
  rw [show zCo n (m2 18) (m2 (20 + 1 + t)) (m2 17 9) (n + 2) 0 = zPC n t m2 from rfl] at hCb
  refine wx_r0 ?_
  refine wx_aload_n (i := 0) dX4_minutesAt_5 rfl rfl ?_
  refine wx_getRG (k := 88) (t := 90) dX4_minutesAt_6 zF_X4_17 zKo_88 rfl (Nat.le_of_ble_eq_true rfl) zRf_88_2 ?_
  refine wx_iload_n (i := 1) dX4_minutesAt_9 rfl rfl ?_
  refine wx_aaldG (k := 90) (j := t) dX4_minutesAt_10 zK_90 (Nat.le_of_ble_eq_true rfl) rfl ?_ ?_
  · exact ⟨by omega, by decide⟩
  refine wx_iload_n (i := 2) dX4_minutesAt_11 rfl rfl ?_
  refine wx_ialdG dX4_minutesAt_12 (zKin_90 _ (by omega)) (zKlt_90 _ (by omega)) rfl ?_ ?_
  · exact ⟨by have := hI.2.2.1; omega, by decide⟩
  refine wx_iret dX4_minutesAt_13 rfl rfl (Or.inl rfl) ?_
  rw [hV.2.2 (by rw [(zPC_fq hf ht).1]; exact hc) z hz]
  exact hK m2 hf hI2 hV
theorem s_X4_rightZones {d : Nat} {K : List Value → zS → Prop} {mm : zM} {n t : Nat} (hI : zPI n mm) (ht : t < 3) (hK : ∀ m2 : zM, zFq mm m2 → zPI n m2 → zPVl n t m2 → K [.int (nI n - nI (zPC n t m2 / 1000))] (zG m2))  : wm (d + 65) mX4_rightZones [.ref 88, .int (nI t)] (zG mm) K := by
  refine wm_of2 (L0 := [some (.ref 88), some (.int (nI t))]) zCm_X4_rightZones (Or.inl rfl) (Nat.le_of_ble_eq_true rfl) rfl ?_
  refine wx_aload_n (i := 0) dX4_rightZones_0 rfl rfl ?_
  refine wx_iload_n (i := 1) dX4_rightZones_1 rfl rfl ?_
  refine wx_V1 dX4_rightZones_2 zPV_X4_settle zLk_X4_42 rfl (Nat.le_of_ble_eq_true rfl) (Nat.le_of_ble_eq_true rfl) (Or.inr rfl) ?_
  refine s_X4_settle hI ht (fun m2 hf hI2 hV => ?_)
  have hCb := zCo_le (n := n) (h := m2 18) (p := m2 (20 + 1 + t)) (r := m2 17 9) (n + 2) 0
  rw [show zCo n (m2 18) (m2 (20 + 1 + t)) (m2 17 9) (n + 2) 0 = zPC n t m2 from rfl] at hCb
  refine wx_r0 ?_
  refine wx_aload_n (i := 0) dX4_rightZones_5 rfl rfl ?_
  refine wx_getIG (k := 88) dX4_rightZones_6 zF_X4_46 zKo_88 rfl (Nat.le_of_ble_eq_true rfl) ?_
  refine wx_aload_n (i := 0) dX4_rightZones_9 rfl rfl ?_
  refine wx_getRG (k := 88) (t := 94) dX4_rightZones_10 zF_X4_20 zKo_88 rfl (Nat.le_of_ble_eq_true rfl) zRf_88_3 ?_
  refine wx_iload_n (i := 1) dX4_rightZones_13 rfl rfl ?_
  refine wx_ialdG (k := 94) dX4_rightZones_14 zK_94 (Nat.le_of_ble_eq_true rfl) rfl ?_ ?_
  · exact ⟨by omega, by decide⟩
  rw [hV.1, hV.2.1]
  refine wx_sipush (v := 1000) dX4_rightZones_15 (by decide) ?_
  refine wx_idiv dX4_rightZones_18 ?_ ?_
  · decide
  rw [show (1000 : Int32) = nI 1000 from rfl, nI_div (by omega) (by omega)]
  refine wx_isub dX4_rightZones_19 ?_
  refine wx_iret dX4_rightZones_20 rfl rfl (Or.inl rfl) ?_
  exact hK m2 hf hI2 hV
