/-! the planner of the class: the strokes of a plan -/
/-- how many of the first so many are more than none -/
def zCnt (f : Nat → Nat) : Nat → Nat
  | 0 => 0
  | z + 1 => zCnt f z + (if 0 < f z then 1 else 0)
theorem zCnt_le (f : Nat → Nat) : ∀ z, zCnt f z ≤ z
  | 0 => Nat.le_refl _
  | z + 1 => by
    have := zCnt_le f z
    show zCnt f z + (if 0 < f z then 1 else 0) ≤ z + 1
    by_cases h : 0 < f z
    · rw [if_pos h]; omega
    · rw [if_neg h]; omega
theorem zCnt_mono (f : Nat → Nat) {a b : Nat} (h : a ≤ b) : zCnt f a ≤ zCnt f b := by
  induction b with
  | zero => rw [show a = 0 by omega]; exact Nat.le_refl _
  | succ b ih =>
    by_cases e : a = b + 1
    · rw [e]; exact Nat.le_refl _
    · exact Nat.le_trans (ih (by omega)) (Nat.le_add_right _ _)
theorem zCnt_y {f : Nat → Nat} {z : Nat} (h : 0 < f z) : zCnt f (z + 1) = zCnt f z + 1 := by
  show zCnt f z + (if 0 < f z then 1 else 0) = _
  rw [if_pos h]
theorem zCnt_n {f : Nat → Nat} {z : Nat} (h : ¬ 0 < f z) : zCnt f (z + 1) = zCnt f z := by
  show zCnt f z + (if 0 < f z then 1 else 0) = _
  rw [if_neg h]; rfl
/-- the strokes of a plan, done in the class -/
noncomputable def zWk (n t : Nat) (f : Nat → Nat) (k : Nat) (mm : zM) : Nat → zM
  | 0 => mm
  | z + 1 => if 0 < f z then zDo (zWk n t f k mm z) n z t (nI (f z)) (k + zCnt f z) else zWk n t f k mm z
theorem zWk_y {n t : Nat} {f : Nat → Nat} {k : Nat} {mm : zM} {z : Nat} (h : 0 < f z) : zWk n t f k mm (z + 1) = zDo (zWk n t f k mm z) n z t (nI (f z)) (k + zCnt f z) := if_pos h
theorem zWk_n {n t : Nat} {f : Nat → Nat} {k : Nat} {mm : zM} {z : Nat} (h : ¬ 0 < f z) : zWk n t f k mm (z + 1) = zWk n t f k mm z := if_neg h
theorem zDo_out {mm : zM} {n z t : Nat} {m : Int32} {k c : Nat} (hk : k < 60) (h : c < 17 ∨ 87 < c) : zDo mm n z t m k c = mm c := by
  unfold zDo
  rw [zU_ne (by omega), zU_ne (by omega), zU_ne (by omega), zU_ne (by omega), zU_ne (by omega)]
  unfold zSt va_up
  rw [if_neg (by omega), if_neg (by omega)]
theorem zDo_17 {mm : zM} {n z t : Nat} {m : Int32} {k j : Nat} (hk : k < 60) (h : j ≠ 8 ∧ j ≠ 10) : zDo mm n z t m k 17 j = mm 17 j := by
  unfold zDo
  rw [zU_off (by omega), zU_off (by omega), zU_ne (by omega), zU_ne (by omega), zU_ne (by omega)]
  unfold zSt va_up
  rw [if_neg (by omega), if_neg (by omega)]
theorem zDo_8 {mm : zM} {n z t : Nat} {m : Int32} {k : Nat} : zDo mm n z t m k 17 8 = nI (k + 1) := by
  unfold zDo
  rw [zU_off (by omega), zU_same]
theorem zWk_out {n t : Nat} {f : Nat → Nat} {k : Nat} {mm : zM} {c : Nat} (h : c < 17 ∨ 87 < c) : ∀ z, k + zCnt f z ≤ 60 → zWk n t f k mm z c = mm c
  | 0, _ => rfl
  | z + 1, hk => by
    by_cases q : 0 < f z
    · rw [zWk_y q, zDo_out (by rw [zCnt_y q] at hk; omega) h]
      exact zWk_out h z (by rw [zCnt_y q] at hk; omega)
    · rw [zWk_n q]
      exact zWk_out h z (by rw [zCnt_n q] at hk; omega)
theorem zWk_17 {n t : Nat} {f : Nat → Nat} {k : Nat} {mm : zM} {j : Nat} (h : j ≠ 8 ∧ j ≠ 10) : ∀ z, k + zCnt f z ≤ 60 → zWk n t f k mm z 17 j = mm 17 j
  | 0, _ => rfl
  | z + 1, hk => by
    by_cases q : 0 < f z
    · rw [zWk_y q, zDo_17 (by rw [zCnt_y q] at hk; omega) h]
      exact zWk_17 h z (by rw [zCnt_y q] at hk; omega)
    · rw [zWk_n q]
      exact zWk_17 h z (by rw [zCnt_n q] at hk; omega)
theorem zWk_8 {n t : Nat} {f : Nat → Nat} {k : Nat} {mm : zM} (h0 : mm 17 8 = nI k) : ∀ z, k + zCnt f z ≤ 60 → zWk n t f k mm z 17 8 = nI (k + zCnt f z)
  | 0, _ => h0
  | z + 1, hk => by
    by_cases q : 0 < f z
    · rw [zWk_y q, zDo_8, zCnt_y q]; rfl
    · rw [zWk_n q, zCnt_n q]
      exact zWk_8 h0 z (by rw [zCnt_n q] at hk; exact hk)
theorem lp_so {d : Nat} {K : List Value → zS → Prop} {m2 : zM} {n t : Nat} (ht : t < 3) (hn16 : n ≤ 16) (h8 : m2 88 8 = nI n) (hr : ∀ z, z < n → m2 (90 + 1 + t) z = nI (zPM n t m2 z)) (hK : K [.int (nI (zCnt (zPM n t m2) n))] (zG m2))  : ∀ (c i : Nat) , i + c = n →  wx (d) mX4_strokesOf 9 [some (.ref 88), some (.int (nI t)), some (.int (nI (zCnt (zPM n t m2) i))), some (.int (nI i))] [] (zG m2) K := by
  intro c
  induction c with
  | zero =>
    intro i  hi 
    obtain rfl : i = n := by omega
    refine wx_iload_n (i := 3) dX4_strokesOf_9 rfl rfl ?_
    refine wx_aload_n (i := 0) dX4_strokesOf_10 rfl rfl ?_
    refine wx_getIG (k := 88) dX4_strokesOf_11 zF_X4_46 zKo_88 rfl (Nat.le_of_ble_eq_true rfl) ?_
    refine wx_icmp_ge (tgt := 37) dX4_strokesOf_14 (by decide) (fun h14 => ?_) (fun h14 => ?_)
    · skip
      refine wx_iload_n (i := 2) dX4_strokesOf_37 rfl rfl ?_
      refine wx_iret dX4_strokesOf_38 rfl rfl (Or.inl rfl) ?_
      exact hK
    · exact absurd (show m2 88 8 ≤ nI i by rw [h8]; exact nI_le (Nat.le_refl _) (by omega)) h14 --end
  | succ c ih =>
    intro i  hi 
    refine wx_iload_n (i := 3) dX4_strokesOf_9 rfl rfl ?_
    refine wx_aload_n (i := 0) dX4_strokesOf_10 rfl rfl ?_
    refine wx_getIG (k := 88) dX4_strokesOf_11 zF_X4_46 zKo_88 rfl (Nat.le_of_ble_eq_true rfl) ?_
    refine wx_icmp_ge (tgt := 37) dX4_strokesOf_14 (by decide) (fun h14 => ?_) (fun h14 => ?_)
    · exact absurd (show m2 88 8 ≤ nI i from h14) (by rw [h8]; exact nI_ge (by omega) (by omega)) --end
    · skip
      refine wx_aload_n (i := 0) dX4_strokesOf_17 rfl rfl ?_
      refine wx_getRG (k := 88) (t := 90) dX4_strokesOf_18 zF_X4_17 zKo_88 rfl (Nat.le_of_ble_eq_true rfl) zRf_88_2 ?_
      refine wx_iload_n (i := 1) dX4_strokesOf_21 rfl rfl ?_
      refine wx_aaldG (k := 90) (j := t) dX4_strokesOf_22 zK_90 (Nat.le_of_ble_eq_true rfl) rfl ?_ ?_
      · exact ⟨by omega, by decide⟩
      refine wx_iload_n (i := 3) dX4_strokesOf_23 rfl rfl ?_
      refine wx_ialdG dX4_strokesOf_24 (zKin_90 _ (by omega)) (zKlt_90 _ (by omega)) rfl ?_ ?_
      · exact ⟨by omega, by decide⟩
      rw [hr i (by omega)]
      refine wx_if_le (tgt := 31) dX4_strokesOf_25 (by decide) (fun h25 => ?_) (fun h25 => ?_)
      · rw [nI_nle0 (by have := zSel_le n (m2 18) (m2 (20 + 1 + t)) (m2 17 9) i (zPst n (m2 18) (m2 (20 + 1 + t)) (m2 17 9) i); unfold zPM zPmi; omega)] at h25
        have e1 := zCnt_n (f := (zPM n t m2)) (z := i) (by omega)
        refine wx_inc (c := 1) dX4_strokesOf_31 rfl (by decide) (Nat.le_of_ble_eq_true rfl) rfl ?_
        refine wx_goto (tgt := 9) dX4_strokesOf_34 (by decide) ?_
        rw [nI_1]
        have e := ih (i + 1) (by omega)
        rw [e1] at e
        first | exact e | (rw [nI_1]; exact e)
      · rw [nI_nle0 (by have := zSel_le n (m2 18) (m2 (20 + 1 + t)) (m2 17 9) i (zPst n (m2 18) (m2 (20 + 1 + t)) (m2 17 9) i); unfold zPM zPmi; omega)] at h25
        have e1 := zCnt_y (f := (zPM n t m2)) (z := i) (by omega)
        refine wx_inc (c := 1) dX4_strokesOf_28 rfl (by decide) (Nat.le_of_ble_eq_true rfl) rfl ?_
        refine wx_inc (c := 1) dX4_strokesOf_31 rfl (by decide) (Nat.le_of_ble_eq_true rfl) rfl ?_
        refine wx_goto (tgt := 9) dX4_strokesOf_34 (by decide) ?_
        rw [nI_1]
        have e := ih (i + 1) (by omega)
        rw [e1] at e
        first | exact e | (rw [nI_1]; exact e)
theorem s_X4_strokesOf {d : Nat} {K : List Value → zS → Prop} {mm : zM} {n t : Nat} (hI : zPI n mm) (ht : t < 3) (hc : zPC n t mm < 1000) (hK : ∀ m2 : zM, zFq mm m2 → zPI n m2 → zPVl n t m2 → K [.int (nI (zCnt (zPM n t m2) n))] (zG m2))  : wm (d + 65) mX4_strokesOf [.ref 88, .int (nI t)] (zG mm) K := by
  refine wm_of2 (L0 := [some (.ref 88), some (.int (nI t)), none, none]) zCm_X4_strokesOf (Or.inl rfl) (Nat.le_of_ble_eq_true rfl) rfl ?_
  refine wx_aload_n (i := 0) dX4_strokesOf_0 rfl rfl ?_
  refine wx_iload_n (i := 1) dX4_strokesOf_1 rfl rfl ?_
  refine wx_V1 dX4_strokesOf_2 zPV_X4_settle zLk_X4_42 rfl (Nat.le_of_ble_eq_true rfl) (Nat.le_of_ble_eq_true rfl) (Or.inr rfl) ?_
  refine s_X4_settle hI ht (fun m2 hf hI2 hV => ?_)
  have hr := hV.2.2 (by rw [(zPC_fq hf ht).1]; exact hc)
  have hn16 := hI.2.2.1
  refine wx_r0 ?_
  refine wx_iconst (v := 0) dX4_strokesOf_5 (by decide) ?_
  refine wx_istore_n (i := 2) dX4_strokesOf_6 rfl (Nat.le_of_ble_eq_true rfl) rfl ?_
  refine wx_iconst (v := 0) dX4_strokesOf_7 (by decide) ?_
  refine wx_istore_n (i := 3) dX4_strokesOf_8 rfl (Nat.le_of_ble_eq_true rfl) rfl ?_
  exact lp_so ht hn16 hV.1 hr (hK m2 hf hI2 hV) n 0 (by omega)
theorem lp_co {d : Nat} {K : List Value → zS → Prop} {m2 : zM} {n t k : Nat} {f : Nat → Nat} (ht : t < 3) (hn : 4 ≤ n ∧ n ≤ 16) (h7 : m2 17 7 = nI n) (h8 : m2 88 8 = nI n) (hk : m2 17 8 = nI k) (h60 : k + zCnt f n ≤ 60) (hr : ∀ z, z < n → m2 (90 + 1 + t) z = nI (f z) ∧ f z ≤ 5) (hK : K [] (zG (zWk n t f k m2 n)))  : ∀ (c i : Nat) , i + c = n →  wx (d + 3) mX4_carryOut 7 [some (.ref 88), some (.int (nI t)), some (.int (nI i))] [] (zG (zWk n t f k m2 i)) K := by
  intro c
  induction c with
  | zero =>
    intro i  hi 
    obtain rfl : i = n := by omega
    refine wx_iload_n (i := 2) dX4_carryOut_7 rfl rfl ?_
    refine wx_aload_n (i := 0) dX4_carryOut_8 rfl rfl ?_
    refine wx_getIG (k := 88) dX4_carryOut_9 zF_X4_46 zKo_88 rfl (Nat.le_of_ble_eq_true rfl) ?_
    refine wx_icmp_ge (tgt := 49) dX4_carryOut_12 (by decide) (fun h12 => ?_) (fun h12 => ?_)
    · skip
      refine wx_vret dX4_carryOut_49 rfl (Or.inl rfl) ?_
      exact hK
    · exact absurd (show zWk i t f k m2 i 88 8 ≤ nI i by rw [zWk_out (by omega) i h60, h8]; exact nI_le (Nat.le_refl _) (by omega)) h12 --end
  | succ c ih =>
    intro i  hi 
    have hle : k + zCnt f i ≤ 60 := by have := zCnt_mono f (show i ≤ n by omega); omega
    have hle1 : k + zCnt f (i + 1) ≤ 60 := by have := zCnt_mono f (show i + 1 ≤ n by omega); omega
    have hf5 := (hr i (by omega)).2
    refine wx_iload_n (i := 2) dX4_carryOut_7 rfl rfl ?_
    refine wx_aload_n (i := 0) dX4_carryOut_8 rfl rfl ?_
    refine wx_getIG (k := 88) dX4_carryOut_9 zF_X4_46 zKo_88 rfl (Nat.le_of_ble_eq_true rfl) ?_
    refine wx_icmp_ge (tgt := 49) dX4_carryOut_12 (by decide) (fun h12 => ?_) (fun h12 => ?_)
    · exact absurd (show zWk n t f k m2 i 88 8 ≤ nI i from h12) (by rw [zWk_out (by omega) i hle, h8]; exact nI_ge (by omega) (by omega)) --end
    · skip
      refine wx_aload_n (i := 0) dX4_carryOut_15 rfl rfl ?_
      refine wx_getRG (k := 88) (t := 90) dX4_carryOut_16 zF_X4_17 zKo_88 rfl (Nat.le_of_ble_eq_true rfl) zRf_88_2 ?_
      refine wx_iload_n (i := 1) dX4_carryOut_19 rfl rfl ?_
      refine wx_aaldG (k := 90) (j := t) dX4_carryOut_20 zK_90 (Nat.le_of_ble_eq_true rfl) rfl ?_ ?_
      · exact ⟨by omega, by decide⟩
      refine wx_iload_n (i := 2) dX4_carryOut_21 rfl rfl ?_
      refine wx_ialdG dX4_carryOut_22 (zKin_90 _ (by omega)) (zKlt_90 _ (by omega)) rfl ?_ ?_
      · exact ⟨by omega, by decide⟩
      rw [zWk_out (by omega) i hle, (hr i (by omega)).1]
      refine wx_if_le (tgt := 43) dX4_carryOut_23 (by decide) (fun h23 => ?_) (fun h23 => ?_)
      · rw [nI_nle0 (by omega)] at h23
        have e1 := zWk_n (n := n) (t := t) (k := k) (mm := m2) (f := f) (z := i) (by omega)
        rw [← e1]
        refine wx_inc (c := 1) dX4_carryOut_43 rfl (by decide) (Nat.le_of_ble_eq_true rfl) rfl ?_
        refine wx_goto (tgt := 7) dX4_carryOut_46 (by decide) ?_
        rw [nI_1]
        exact ih (i + 1) (by omega)
      · rw [nI_nle0 (by omega)] at h23
        refine wx_aload_n (i := 0) dX4_carryOut_26 rfl rfl ?_
        refine wx_getRG (k := 88) (t := 17) dX4_carryOut_27 zF_X4_32 zKo_88 rfl (Nat.le_of_ble_eq_true rfl) zRf_88_0 ?_
        refine wx_iload_n (i := 1) dX4_carryOut_30 rfl rfl ?_
        refine wx_iload_n (i := 2) dX4_carryOut_31 rfl rfl ?_
        refine wx_aload_n (i := 0) dX4_carryOut_32 rfl rfl ?_
        refine wx_getRG (k := 88) (t := 90) dX4_carryOut_33 zF_X4_17 zKo_88 rfl (Nat.le_of_ble_eq_true rfl) zRf_88_2 ?_
        refine wx_iload_n (i := 1) dX4_carryOut_36 rfl rfl ?_
        refine wx_aaldG (k := 90) (j := t) dX4_carryOut_37 zK_90 (Nat.le_of_ble_eq_true rfl) rfl ?_ ?_
        · exact ⟨by omega, by decide⟩
        refine wx_iload_n (i := 2) dX4_carryOut_38 rfl rfl ?_
        refine wx_ialdG dX4_carryOut_39 (zKin_90 _ (by omega)) (zKlt_90 _ (by omega)) rfl ?_ ?_
        · exact ⟨by omega, by decide⟩
        rw [zWk_out (by omega) i hle, (hr i (by omega)).1]
        refine wx_V3 dX4_carryOut_40 zPV_X0_doStroke zLk_X4_50 rfl (Nat.le_of_ble_eq_true rfl) (Nat.le_of_ble_eq_true rfl) (Or.inr rfl) ?_
        refine s_X0_doStroke hn (show i < n by omega) ht (by rw [zWk_17 (by omega) i hle]; exact h7) (k := k + zCnt f i) (by rw [zCnt_y (by omega)] at hle1; omega) (zWk_8 hk i hle) ?_
        rw [← zWk_y (by omega)]
        refine wx_r0 ?_
        refine wx_inc (c := 1) dX4_carryOut_43 rfl (by decide) (Nat.le_of_ble_eq_true rfl) rfl ?_
        refine wx_goto (tgt := 7) dX4_carryOut_46 (by decide) ?_
        rw [nI_1]
        exact ih (i + 1) (by omega)
theorem s_X4_carryOut {d : Nat} {K : List Value → zS → Prop} {mm : zM} {n t : Nat} (hI : zPI n mm) (ht : t < 3) (hc : zPC n t mm < 1000) {k : Nat} (hk : mm 17 8 = nI k) (h60 : k + zCnt (zPM n t mm) n ≤ 60) (hK : ∀ m2 : zM, zFq mm m2 → zPI n m2 → zPVl n t m2 → K [] (zG (zWk n t (zPM n t m2) k m2 n)))  : wm (d + 65) mX4_carryOut [.ref 88, .int (nI t)] (zG mm) K := by
  refine wm_of2 (L0 := [some (.ref 88), some (.int (nI t)), none]) zCm_X4_carryOut (Or.inl rfl) (Nat.le_of_ble_eq_true rfl) rfl ?_
  refine wx_aload_n (i := 0) dX4_carryOut_0 rfl rfl ?_
  refine wx_iload_n (i := 1) dX4_carryOut_1 rfl rfl ?_
  refine wx_V1 dX4_carryOut_2 zPV_X4_settle zLk_X4_42 rfl (Nat.le_of_ble_eq_true rfl) (Nat.le_of_ble_eq_true rfl) (Or.inr rfl) ?_
  refine s_X4_settle hI ht (fun m2 hf hI2 hV => ?_)
  have hr := hV.2.2 (by rw [(zPC_fq hf ht).1]; exact hc)
  have hn16 := hI.2.2.1
  refine wx_r0 ?_
  refine wx_iconst (v := 0) dX4_carryOut_5 (by decide) ?_
  refine wx_istore_n (i := 2) dX4_carryOut_6 rfl (Nat.le_of_ble_eq_true rfl) rfl ?_
  exact lp_co ht ⟨hI.2.1, hn16⟩ hI2.1 hV.1 (by rw [hf 17 (by omega)]; exact hk) (by rw [(zPC_fq hf ht).2]; exact h60) (fun z hz => ⟨hr z hz, zSel_le _ _ _ _ _ _⟩) (hK m2 hf hI2 hV) n 0 (by omega)
