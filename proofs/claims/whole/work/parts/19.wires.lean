/-! the wires of the class -/
/-- what is told of the wires -/
def zWO (n : Nat) (wi wj : Nat → Nat) (wv : Nat → Int) (q : Nat) : Prop := q ≤ 12 ∧ ∀ k, k < q → (wi k < wj k ∧ wj k ≤ n) ∧ (-100000 ≤ wv k ∧ wv k ≤ 100000)
def zWC (wi wj : Nat → Nat) (wv : Nat → Int) (q : Nat) (mm : zM) : Prop := mm 13 4 = nI q ∧ ∀ k, k < q → mm 14 k = nI (wi k) ∧ mm 15 k = nI (wj k) ∧ mm 16 k = zi (wv k)
theorem zWC_fk {wi wj : Nat → Nat} {wv : Nat → Int} {q : Nat} {mm m2 : zM} (h : zWC wi wj wv q mm) (f : zFk mm m2) : zWC wi wj wv q m2 := ⟨by rw [f 13 4 (by omega) (by omega)]; exact h.1, fun k hk => ⟨by rw [f 14 k (by omega) (by omega)]; exact (h.2 k hk).1, by rw [f 15 k (by omega) (by omega)]; exact (h.2 k hk).2.1, by rw [f 16 k (by omega) (by omega)]; exact (h.2 k hk).2.2⟩⟩
/-- how far a wire is off -/
def zOf (f : Nat → Int) (wi wj : Nat → Nat) (wv : Nat → Int) (k : Nat) : Int := if zPv f (wi k) = 1000000 ∨ zPv f (wj k) = 1000000 then 1000000 else wv k - (zPv f (wj k) - zPv f (wi k))
theorem zPv_b {f : Nat → Int} (h : ∀ j, -1100 ≤ f j ∧ f j ≤ 5000) {z : Nat} (hz : z ≤ 15) : -20000 ≤ zPv f z ∧ zPv f z ≤ 1000000 := by
  have h1 := zPd_b h z
  unfold zPv
  by_cases q : zNo f z = true
  · rw [if_pos q]; omega
  · rw [if_neg q]; omega
theorem zOf_b {f : Nat → Int} (h : ∀ j, -1100 ≤ f j ∧ f j ≤ 5000) {wi wj : Nat → Nat} {wv : Nat → Int} {n q k : Nat} (hw : zWO n wi wj wv q) (hn : n ≤ 15) (hk : k < q) : -2000000 ≤ zOf f wi wj wv k ∧ zOf f wi wj wv k ≤ 2000000 := by
  obtain ⟨⟨a1, a2⟩, a3⟩ := hw.2 k hk
  have h1 := zPv_b h (z := wi k) (by omega)
  have h2 := zPv_b h (z := wj k) (by omega)
  unfold zOf
  by_cases e : zPv f (wi k) = 1000000 ∨ zPv f (wj k) = 1000000
  · rw [if_pos e]; omega
  · rw [if_neg e]; omega
/-- which kind a wire is of: it closes, it is open, it is neither -/
def zKd (f : Nat → Int) (L : Int) (wi wj : Nat → Nat) (wv : Nat → Int) (k : Nat) : Int := if zOf f wi wj wv k = 1000000 then 2 else if ((zOf f wi wj wv k).natAbs : Int) ≤ L * ((wj k : Int) - (wi k : Int)) then 0 else 1
def zWn (f : Nat → Int) (L : Int) (wi wj : Nat → Nat) (wv : Nat → Int) (v : Int32) : Nat → Int
  | 0 => 0
  | k + 1 => zWn f L wi wj wv v k + (if zi (zKd f L wi wj wv k) = v then 1 else 0)
theorem zWn_y {f : Nat → Int} {L : Int} {wi wj : Nat → Nat} {wv : Nat → Int} {v : Int32} {k : Nat} (h : zi (zKd f L wi wj wv k) = v) : zWn f L wi wj wv v (k + 1) = zWn f L wi wj wv v k + 1 := by
  show _ + _ = _
  rw [if_pos h]
theorem zWn_n {f : Nat → Int} {L : Int} {wi wj : Nat → Nat} {wv : Nat → Int} {v : Int32} {k : Nat} (h : ¬ zi (zKd f L wi wj wv k) = v) : zWn f L wi wj wv v (k + 1) = zWn f L wi wj wv v k := by
  show _ + _ = _
  rw [if_neg h]; omega
theorem s_X7_begin {d : Nat} {K : List Value → zS → Prop} {mm : zM} (hK : K [] (zG (zU mm 13 4 0))) : wm (d) mX7_begin [.ref 13] (zG mm) K := by
  refine wm_of2 (L0 := [some (.ref 13)]) zCm_X7_begin (Or.inl rfl) (Nat.le_of_ble_eq_true rfl) rfl ?_
  refine wx_aload_n (i := 0) dX7_begin_0 rfl rfl ?_
  refine wx_iconst (v := 0) dX7_begin_1 (by decide) ?_
  refine wx_putIG (k := 13) dX7_begin_2 zF_X7_21 zKo_13 rfl (Nat.le_of_ble_eq_true rfl) rfl rfl ?_
  refine wx_vret dX7_begin_5 rfl (Or.inl rfl) ?_
  exact hK
theorem s_X7_howMany {d : Nat} {K : List Value → zS → Prop} {mm : zM} (hK : K [.int (mm 13 4)] (zG mm)) : wm (d) mX7_howMany [.ref 13] (zG mm) K := by
  refine wm_of2 (L0 := [some (.ref 13)]) zCm_X7_howMany (Or.inl rfl) (Nat.le_of_ble_eq_true rfl) rfl ?_
  refine wx_aload_n (i := 0) dX7_howMany_0 rfl rfl ?_
  refine wx_getIG (k := 13) dX7_howMany_1 zF_X7_21 zKo_13 rfl (Nat.le_of_ble_eq_true rfl) ?_
  refine wx_iret dX7_howMany_4 rfl rfl (Or.inl rfl) ?_
  exact hK
theorem s_X7_hold {d : Nat} {K : List Value → zS → Prop} {mm : zM} {q : Nat} {a b c : Int32} (hq : mm 13 4 = nI q) (h12 : q < 12) (hK : K [.int (nI (q + 1))] (zG (zU (zU (zU (zU mm 14 q a) 15 q b) 16 q c) 13 4 (nI (q + 1))))) : wm (d) mX7_hold [.ref 13, .int a, .int b, .int c] (zG mm) K := by
  refine wm_of2 (L0 := [some (.ref 13), some (.int a), some (.int b), some (.int c)]) zCm_X7_hold (Or.inl rfl) (Nat.le_of_ble_eq_true rfl) rfl ?_
  refine wx_aload_n (i := 0) dX7_hold_0 rfl rfl ?_
  refine wx_getIG (k := 13) dX7_hold_1 zF_X7_21 zKo_13 rfl (Nat.le_of_ble_eq_true rfl) ?_
  refine wx_bipush (v := 12) dX7_hold_4 (by decide) ?_
  refine wx_icmp_ge (tgt := 49) dX7_hold_6 (by decide) (fun h6 => ?_) (fun h6 => ?_)
  · exact absurd (show nI 12 ≤ mm 13 4 from h6) (by rw [hq]; exact nI_ge (by omega) (by omega)) --end
  · skip
    refine wx_aload_n (i := 0) dX7_hold_9 rfl rfl ?_
    refine wx_getRG (k := 13) (t := 14) dX7_hold_10 zF_X7_9 zKo_13 rfl (Nat.le_of_ble_eq_true rfl) zRf_13_1 ?_
    refine wx_aload_n (i := 0) dX7_hold_13 rfl rfl ?_
    refine wx_getIG (k := 13) dX7_hold_14 zF_X7_21 zKo_13 rfl (Nat.le_of_ble_eq_true rfl) ?_
    refine wx_iload_n (i := 1) dX7_hold_17 rfl rfl ?_
    refine wx_iastG (k := 14) (j := q) dX7_hold_18 zK_14 (Nat.le_of_ble_eq_true rfl) ?_ ?_ ?_
    · exact hq
    · exact ⟨by omega, by decide⟩
    refine wx_aload_n (i := 0) dX7_hold_19 rfl rfl ?_
    refine wx_getRG (k := 13) (t := 15) dX7_hold_20 zF_X7_15 zKo_13 rfl (Nat.le_of_ble_eq_true rfl) zRf_13_2 ?_
    refine wx_aload_n (i := 0) dX7_hold_23 rfl rfl ?_
    refine wx_getIG (k := 13) dX7_hold_24 zF_X7_21 zKo_13 rfl (Nat.le_of_ble_eq_true rfl) ?_
    refine wx_iload_n (i := 2) dX7_hold_27 rfl rfl ?_
    refine wx_iastG (k := 15) (j := q) dX7_hold_28 zK_15 (Nat.le_of_ble_eq_true rfl) ?_ ?_ ?_
    · (rw [zU_ne (by decide)]; exact hq)
    · exact ⟨by omega, by decide⟩
    refine wx_aload_n (i := 0) dX7_hold_29 rfl rfl ?_
    refine wx_getRG (k := 13) (t := 16) dX7_hold_30 zF_X7_18 zKo_13 rfl (Nat.le_of_ble_eq_true rfl) zRf_13_3 ?_
    refine wx_aload_n (i := 0) dX7_hold_33 rfl rfl ?_
    refine wx_getIG (k := 13) dX7_hold_34 zF_X7_21 zKo_13 rfl (Nat.le_of_ble_eq_true rfl) ?_
    refine wx_iload_n (i := 3) dX7_hold_37 rfl rfl ?_
    refine wx_iastG (k := 16) (j := q) dX7_hold_38 zK_16 (Nat.le_of_ble_eq_true rfl) ?_ ?_ ?_
    · (rw [zU_ne (by decide), zU_ne (by decide)]; exact hq)
    · exact ⟨by omega, by decide⟩
    refine wx_aload_n (i := 0) dX7_hold_39 rfl rfl ?_
    refine wx_dup dX7_hold_40 rfl ?_
    refine wx_getIG (k := 13) dX7_hold_41 zF_X7_21 zKo_13 rfl (Nat.le_of_ble_eq_true rfl) ?_
    refine wx_iconst (v := 1) dX7_hold_44 (by decide) ?_
    refine wx_iadd dX7_hold_45 ?_
    rw [zU_ne (by decide), zU_ne (by decide), zU_ne (by decide), hq, nI_1]
    refine wx_putIG (k := 13) dX7_hold_46 zF_X7_21 zKo_13 rfl (Nat.le_of_ble_eq_true rfl) rfl rfl ?_
    refine wx_aload_n (i := 0) dX7_hold_49 rfl rfl ?_
    refine wx_getIG (k := 13) dX7_hold_50 zF_X7_21 zKo_13 rfl (Nat.le_of_ble_eq_true rfl) ?_
    refine wx_iret dX7_hold_53 rfl rfl (Or.inl rfl) ?_
    rw [zU_same]
    exact hK
theorem s_X7_offBy {d : Nat} {K : List Value → zS → Prop} {mm : zM} {g : Nat → Nat → Int} {L : Int} {n : Nat} {wi wj : Nat → Nat} {wv : Nat → Int} {q : Nat} (hI : zKI g L n mm) (hW : zWO n wi wj wv q) (hC : zWC wi wj wv q mm) {k : Nat} (hk : k < q) (hK : ∀ m2 : zM, zFk mm m2 → zKI g L n m2 → K [.int (zi (zOf (zFd g L n) wi wj wv k))] (zG m2))  : wm (d + 6) mX7_offBy [.ref 13, .int (nI k)] (zG mm) K := by
  have hp1 := zPv_b (zFd_b (g := g) (L := L) hI.1) (z := wi k) (by have := (hW.2 k hk).1; have := hI.1.2.2; omega)
  have hp2 := zPv_b (zFd_b (g := g) (L := L) hI.1) (z := wj k) (by have := (hW.2 k hk).1; have := hI.1.2.2; omega)
  refine wm_of2 (L0 := [some (.ref 13), some (.int (nI k)), none, none]) zCm_X7_offBy (Or.inl rfl) (Nat.le_of_ble_eq_true rfl) rfl ?_
  refine wx_aload_n (i := 0) dX7_offBy_0 rfl rfl ?_
  refine wx_getRG (k := 13) (t := 2) dX7_offBy_1 zF_X7_25 zKo_13 rfl (Nat.le_of_ble_eq_true rfl) zRf_13_0 ?_
  refine wx_aload_n (i := 0) dX7_offBy_4 rfl rfl ?_
  refine wx_getRG (k := 13) (t := 14) dX7_offBy_5 zF_X7_9 zKo_13 rfl (Nat.le_of_ble_eq_true rfl) zRf_13_1 ?_
  refine wx_iload_n (i := 1) dX7_offBy_8 rfl rfl ?_
  refine wx_ialdG (k := 14) dX7_offBy_9 zK_14 (Nat.le_of_ble_eq_true rfl) rfl ?_ ?_
  · exact ⟨by have := hW.1; omega, by decide⟩
  refine wx_V1 dX7_offBy_10 zPV_X3_profileOf zLk_X7_45 rfl (Nat.le_of_ble_eq_true rfl) (Nat.le_of_ble_eq_true rfl) (Or.inr rfl) ?_
  rw [(hC.2 k hk).1]
  refine s_X3_profileOf hI (by have := (hW.2 k hk).1; omega) (fun m2 hf hI2 => ?_)
  have hC2 := zWC_fk hC hf
  refine wx_r1 ?_
  refine wx_istore_n (i := 2) dX7_offBy_13 rfl (Nat.le_of_ble_eq_true rfl) rfl ?_
  refine wx_aload_n (i := 0) dX7_offBy_14 rfl rfl ?_
  refine wx_getRG (k := 13) (t := 2) dX7_offBy_15 zF_X7_25 zKo_13 rfl (Nat.le_of_ble_eq_true rfl) zRf_13_0 ?_
  refine wx_aload_n (i := 0) dX7_offBy_18 rfl rfl ?_
  refine wx_getRG (k := 13) (t := 15) dX7_offBy_19 zF_X7_15 zKo_13 rfl (Nat.le_of_ble_eq_true rfl) zRf_13_2 ?_
  refine wx_iload_n (i := 1) dX7_offBy_22 rfl rfl ?_
  refine wx_ialdG (k := 15) dX7_offBy_23 zK_15 (Nat.le_of_ble_eq_true rfl) rfl ?_ ?_
  · exact ⟨by have := hW.1; omega, by decide⟩
  refine wx_V1 dX7_offBy_24 zPV_X3_profileOf zLk_X7_45 rfl (Nat.le_of_ble_eq_true rfl) (Nat.le_of_ble_eq_true rfl) (Or.inr rfl) ?_
  rw [(hC2.2 k hk).2.1]
  refine s_X3_profileOf hI2 (by have := (hW.2 k hk).1; omega) (fun m3 hf3 hI3 => ?_)
  have hC3 := zWC_fk hC2 hf3
  refine wx_r1 ?_
  refine wx_istore_n (i := 3) dX7_offBy_27 rfl (Nat.le_of_ble_eq_true rfl) rfl ?_
  refine wx_iload_n (i := 2) dX7_offBy_28 rfl rfl ?_
  refine wx_ldc dX7_offBy_29 zKc_X7_44 ?_
  refine wx_icmp_eq (tgt := 40) dX7_offBy_31 (by decide) (fun h31 => ?_) (fun h31 => ?_)
  · rw [zl_1000000, zi_eq (by omega) (by omega)] at h31
    refine wx_ldc dX7_offBy_40 zKc_X7_44 ?_
    refine wx_iret dX7_offBy_42 rfl rfl (Or.inl rfl) ?_
    exact zki (hK m3 (zFk_trans hf hf3) hI3) (by unfold zOf; rw [if_pos (by first | exact Or.inl h31 | exact Or.inr h37)]; rfl)
  · rw [zl_1000000, zi_eq (by omega) (by omega)] at h31
    refine wx_iload_n (i := 3) dX7_offBy_34 rfl rfl ?_
    refine wx_ldc dX7_offBy_35 zKc_X7_44 ?_
    refine wx_icmp_ne (tgt := 43) dX7_offBy_37 (by decide) (fun h37 => ?_) (fun h37 => ?_)
    · rw [zl_1000000, zi_eq (by omega) (by omega)] at h37
      refine wx_aload_n (i := 0) dX7_offBy_43 rfl rfl ?_
      refine wx_getRG (k := 13) (t := 16) dX7_offBy_44 zF_X7_18 zKo_13 rfl (Nat.le_of_ble_eq_true rfl) zRf_13_3 ?_
      refine wx_iload_n (i := 1) dX7_offBy_47 rfl rfl ?_
      refine wx_ialdG (k := 16) dX7_offBy_48 zK_16 (Nat.le_of_ble_eq_true rfl) rfl ?_ ?_
      · exact ⟨by have := hW.1; omega, by decide⟩
      refine wx_iload_n (i := 3) dX7_offBy_49 rfl rfl ?_
      refine wx_iload_n (i := 2) dX7_offBy_50 rfl rfl ?_
      refine wx_isub dX7_offBy_51 ?_
      refine wx_isub dX7_offBy_52 ?_
      refine wx_iret dX7_offBy_53 rfl rfl (Or.inl rfl) ?_
      exact zki (hK m3 (zFk_trans hf hf3) hI3) (by rw [(hC3.2 k hk).2.2]; unfold zOf; rw [if_neg (fun w => w.elim h31 h37), zi_sub, zi_sub])
    · rw [zl_1000000, zi_eq (by omega) (by omega)] at h37
      refine wx_ldc dX7_offBy_40 zKc_X7_44 ?_
      refine wx_iret dX7_offBy_42 rfl rfl (Or.inl rfl) ?_
      exact zki (hK m3 (zFk_trans hf hf3) hI3) (by unfold zOf; rw [if_pos (by first | exact Or.inl h31 | exact Or.inr h37)]; rfl)
theorem lp_of53 {d : Nat} {K : List Value → zS → Prop} {mm : zM} {g : Nat → Nat → Int} {L : Int} {n : Nat} {wi wj : Nat → Nat} {wv : Nat → Int} {v : Int32} {i : Nat} {y5 y6 : Option Value} (hob : -2000000 ≤ zOf (zFd g L n) wi wj wv i ∧ zOf (zFd g L n) wi wj wv i ≤ 2000000) (hK : ∀ y5 y6 : Option Value, wx (d + 7) mX7_howManyOf 4 [some (.ref 13), some (.int v), some (.int (zi (zWn (zFd g L n) L wi wj wv v (i + 1)))), some (.int (nI (i + 1))), some (.int (zi (zOf (zFd g L n) wi wj wv i))), y5, y6] [] (zG mm) K) : wx (d + 7) mX7_howManyOf 53 [some (.ref 13), some (.int v), some (.int (zi (zWn (zFd g L n) L wi wj wv v i))), some (.int (nI i)), some (.int (zi (zOf (zFd g L n) wi wj wv i))), y5, y6] [.int (if ((zOf (zFd g L n) wi wj wv i).natAbs : Int) ≤ L * ((wj i : Int) - (wi i : Int)) then 1 else 0)] (zG mm) K := by
  refine wx_istore dX7_howManyOf_53 (Nat.le_of_ble_eq_true rfl) rfl ?_
  refine wx_iload dX7_howManyOf_55 rfl ?_
  refine wx_ldc dX7_howManyOf_57 zKc_X7_44 ?_
  refine wx_icmp_ne (tgt := 66) dX7_howManyOf_59 (by decide) (fun h59 => ?_) (fun h59 => ?_)
  · rw [zl_1000000, zi_eq (by omega) (by omega)] at h59
    
    refine wx_iload dX7_howManyOf_66 rfl ?_
    refine wx_eqb (tgt := 75) dX7_howManyOf_68 (by decide) (fun h68 => ?_) (fun h68 => ?_)
    · have hkd : zKd (zFd g L n) L wi wj wv i = 1 := by unfold zKd; rw [if_neg h59, if_neg h68]
      refine wx_iconst (v := 1) dX7_howManyOf_75 (by decide) ?_
      refine wx_istore dX7_howManyOf_76 (Nat.le_of_ble_eq_true rfl) rfl ?_
      refine wx_iload dX7_howManyOf_78 rfl ?_
      refine wx_iload_n (i := 1) dX7_howManyOf_80 rfl rfl ?_
      refine wx_icmp_ne (tgt := 87) dX7_howManyOf_81 (by decide) (fun h81 => ?_) (fun h81 => ?_)
      · have hd : zi (zWn (zFd g L n) L wi wj wv v i) = zi (zWn (zFd g L n) L wi wj wv v (i + 1)) := by rw [zWn_n (by rw [hkd]; exact h81)]
        refine wx_inc (c := 1) dX7_howManyOf_87 rfl (by decide) (Nat.le_of_ble_eq_true rfl) rfl ?_
        refine wx_goto (tgt := 4) dX7_howManyOf_90 (by decide) ?_
        rw [nI_1, hd]
        exact hK _ _
      · have hd : zi (zWn (zFd g L n) L wi wj wv v i) + 1 = zi (zWn (zFd g L n) L wi wj wv v (i + 1)) := by rw [zWn_y (by rw [hkd]; exact h81), zl_1, zi_add]
        refine wx_inc (c := 1) dX7_howManyOf_84 rfl (by decide) (Nat.le_of_ble_eq_true rfl) rfl ?_
        refine wx_inc (c := 1) dX7_howManyOf_87 rfl (by decide) (Nat.le_of_ble_eq_true rfl) rfl ?_
        refine wx_goto (tgt := 4) dX7_howManyOf_90 (by decide) ?_
        rw [nI_1, hd]
        exact hK _ _
    · have hkd : zKd (zFd g L n) L wi wj wv i = 0 := by unfold zKd; rw [if_neg h59, if_pos h68]
      refine wx_iconst (v := 0) dX7_howManyOf_71 (by decide) ?_
      refine wx_goto (tgt := 76) dX7_howManyOf_72 (by decide) ?_
      refine wx_istore dX7_howManyOf_76 (Nat.le_of_ble_eq_true rfl) rfl ?_
      refine wx_iload dX7_howManyOf_78 rfl ?_
      refine wx_iload_n (i := 1) dX7_howManyOf_80 rfl rfl ?_
      refine wx_icmp_ne (tgt := 87) dX7_howManyOf_81 (by decide) (fun h81 => ?_) (fun h81 => ?_)
      · have hd : zi (zWn (zFd g L n) L wi wj wv v i) = zi (zWn (zFd g L n) L wi wj wv v (i + 1)) := by rw [zWn_n (by rw [hkd]; exact h81)]
        refine wx_inc (c := 1) dX7_howManyOf_87 rfl (by decide) (Nat.le_of_ble_eq_true rfl) rfl ?_
        refine wx_goto (tgt := 4) dX7_howManyOf_90 (by decide) ?_
        rw [nI_1, hd]
        exact hK _ _
      · have hd : zi (zWn (zFd g L n) L wi wj wv v i) + 1 = zi (zWn (zFd g L n) L wi wj wv v (i + 1)) := by rw [zWn_y (by rw [hkd]; exact h81), zl_1, zi_add]
        refine wx_inc (c := 1) dX7_howManyOf_84 rfl (by decide) (Nat.le_of_ble_eq_true rfl) rfl ?_
        refine wx_inc (c := 1) dX7_howManyOf_87 rfl (by decide) (Nat.le_of_ble_eq_true rfl) rfl ?_
        refine wx_goto (tgt := 4) dX7_howManyOf_90 (by decide) ?_
        rw [nI_1, hd]
        exact hK _ _
  · rw [zl_1000000, zi_eq (by omega) (by omega)] at h59
    have hkd : zKd (zFd g L n) L wi wj wv i = 2 := by unfold zKd; rw [if_pos h59]
    refine wx_iconst (v := 2) dX7_howManyOf_62 (by decide) ?_
    refine wx_goto (tgt := 76) dX7_howManyOf_63 (by decide) ?_
    refine wx_istore dX7_howManyOf_76 (Nat.le_of_ble_eq_true rfl) rfl ?_
    refine wx_iload dX7_howManyOf_78 rfl ?_
    refine wx_iload_n (i := 1) dX7_howManyOf_80 rfl rfl ?_
    refine wx_icmp_ne (tgt := 87) dX7_howManyOf_81 (by decide) (fun h81 => ?_) (fun h81 => ?_)
    · have hd : zi (zWn (zFd g L n) L wi wj wv v i) = zi (zWn (zFd g L n) L wi wj wv v (i + 1)) := by rw [zWn_n (by rw [hkd]; exact h81)]
      refine wx_inc (c := 1) dX7_howManyOf_87 rfl (by decide) (Nat.le_of_ble_eq_true rfl) rfl ?_
      refine wx_goto (tgt := 4) dX7_howManyOf_90 (by decide) ?_
      rw [nI_1, hd]
      exact hK _ _
    · have hd : zi (zWn (zFd g L n) L wi wj wv v i) + 1 = zi (zWn (zFd g L n) L wi wj wv v (i + 1)) := by rw [zWn_y (by rw [hkd]; exact h81), zl_1, zi_add]
      refine wx_inc (c := 1) dX7_howManyOf_84 rfl (by decide) (Nat.le_of_ble_eq_true rfl) rfl ?_
      refine wx_inc (c := 1) dX7_howManyOf_87 rfl (by decide) (Nat.le_of_ble_eq_true rfl) rfl ?_
      refine wx_goto (tgt := 4) dX7_howManyOf_90 (by decide) ?_
      rw [nI_1, hd]
      exact hK _ _
theorem lp_of {d : Nat} {K : List Value → zS → Prop} {mm : zM} {g : Nat → Nat → Int} {L : Int} {n : Nat} {wi wj : Nat → Nat} {wv : Nat → Int} {q : Nat} {v : Int32} (hW : zWO n wi wj wv q) (hC : zWC wi wj wv q mm) (hK : ∀ m2 : zM, zFk mm m2 → zKI g L n m2 → K [.int (zi (zWn (zFd g L n) L wi wj wv v q))] (zG m2))  : ∀ (c i : Nat) (m1 : zM) (y4 y5 y6 : Option Value), i + c = q → (zFk mm m1) → (zKI g L n m1) → wx (d + 7) mX7_howManyOf 4 [some (.ref 13), some (.int v), some (.int (zi (zWn (zFd g L n) L wi wj wv v i))), some (.int (nI i)), y4, y5, y6] [] (zG m1) K := by
  intro c
  induction c with
  | zero =>
    intro i m1 y4 y5 y6 hi hg hI1
    obtain rfl : i = q := by omega
    refine wx_iload_n (i := 3) dX7_howManyOf_4 rfl rfl ?_
    refine wx_aload_n (i := 0) dX7_howManyOf_5 rfl rfl ?_
    refine wx_getIG (k := 13) dX7_howManyOf_6 zF_X7_21 zKo_13 rfl (Nat.le_of_ble_eq_true rfl) ?_
    refine wx_icmp_ge (tgt := 93) dX7_howManyOf_9 (by decide) (fun h9 => ?_) (fun h9 => ?_)
    · skip
      refine wx_iload_n (i := 2) dX7_howManyOf_93 rfl rfl ?_
      refine wx_iret dX7_howManyOf_94 rfl rfl (Or.inl rfl) ?_
      exact hK m1 hg hI1
    · exact absurd (show m1 13 4 ≤ nI i by rw [(zWC_fk hC hg).1]; exact nI_le (Nat.le_refl _) (by have := hW.1; omega)) h9 --end
  | succ c ih =>
    intro i m1 y4 y5 y6 hi hg hI1
    have hC1 := zWC_fk hC hg
    have hob := zOf_b (zFd_b (g := g) (L := L) hI1.1) hW hI1.1.2.2.2 (show i < q by omega)
    have hwi := (hW.2 i (by omega)).1
    have hLb := hI1.1.2
    have hmb : 0 ≤ L * ((wj i : Int) - (wi i : Int)) ∧ L * ((wj i : Int) - (wi i : Int)) ≤ 50 * 15 := zBx ⟨by omega, by omega⟩ ⟨by omega, by omega⟩
    refine wx_iload_n (i := 3) dX7_howManyOf_4 rfl rfl ?_
    refine wx_aload_n (i := 0) dX7_howManyOf_5 rfl rfl ?_
    refine wx_getIG (k := 13) dX7_howManyOf_6 zF_X7_21 zKo_13 rfl (Nat.le_of_ble_eq_true rfl) ?_
    refine wx_icmp_ge (tgt := 93) dX7_howManyOf_9 (by decide) (fun h9 => ?_) (fun h9 => ?_)
    · exact absurd (show m1 13 4 ≤ nI i from h9) (by rw [(zWC_fk hC hg).1]; exact nI_ge (by omega) (by have := hW.1; omega)) --end
    · skip
      refine wx_aload_n (i := 0) dX7_howManyOf_12 rfl rfl ?_
      refine wx_iload_n (i := 3) dX7_howManyOf_13 rfl rfl ?_
      refine wx_V1 dX7_howManyOf_14 zPV_X7_offBy zLk_X7_29 rfl (Nat.le_of_ble_eq_true rfl) (Nat.le_of_ble_eq_true rfl) (Or.inr rfl) ?_
      refine s_X7_offBy hI1 hW hC1 (show i < q by omega) (fun m2 hf hI2 => ?_)
      have hC2 := zWC_fk hC1 hf
      refine wx_r1 ?_
      refine wx_istore dX7_howManyOf_17 (Nat.le_of_ble_eq_true rfl) rfl ?_
      refine wx_iload dX7_howManyOf_19 rfl ?_
      refine wx_S1 dX7_howManyOf_21 zPS_J9_abs_0f7a4 zLk_X7_33 (Nat.le_of_ble_eq_true rfl) (Or.inr rfl) ?_
      refine s_J9_abs_0f7a4 _ ?_
      refine wx_r1 ?_
      refine wx_aload_n (i := 0) dX7_howManyOf_24 rfl rfl ?_
      refine wx_getRG (k := 13) (t := 2) dX7_howManyOf_25 zF_X7_25 zKo_13 rfl (Nat.le_of_ble_eq_true rfl) zRf_13_0 ?_
      refine wx_V0 dX7_howManyOf_28 zPV_X3_lieOf zLk_X7_38 rfl (Nat.le_of_ble_eq_true rfl) (Nat.le_of_ble_eq_true rfl) (Or.inr rfl) ?_
      refine s_X3_lieOf ?_
      refine wx_r1 ?_
      refine wx_aload_n (i := 0) dX7_howManyOf_31 rfl rfl ?_
      refine wx_getRG (k := 13) (t := 15) dX7_howManyOf_32 zF_X7_15 zKo_13 rfl (Nat.le_of_ble_eq_true rfl) zRf_13_2 ?_
      refine wx_iload_n (i := 3) dX7_howManyOf_35 rfl rfl ?_
      refine wx_ialdG (k := 15) dX7_howManyOf_36 zK_15 (Nat.le_of_ble_eq_true rfl) rfl ?_ ?_
      · exact ⟨by have := hW.1; omega, by decide⟩
      refine wx_aload_n (i := 0) dX7_howManyOf_37 rfl rfl ?_
      refine wx_getRG (k := 13) (t := 14) dX7_howManyOf_38 zF_X7_9 zKo_13 rfl (Nat.le_of_ble_eq_true rfl) zRf_13_1 ?_
      refine wx_iload_n (i := 3) dX7_howManyOf_41 rfl rfl ?_
      refine wx_ialdG (k := 14) dX7_howManyOf_42 zK_14 (Nat.le_of_ble_eq_true rfl) rfl ?_ ?_
      · exact ⟨by have := hW.1; omega, by decide⟩
      refine wx_isub dX7_howManyOf_43 ?_
      refine wx_imul dX7_howManyOf_44 ?_
      refine wx_icmp_gt (tgt := 52) dX7_howManyOf_45 (by decide) (fun h45 => ?_) (fun h45 => ?_)
      · rw [hI2.2.1.2.1, (hC2.2 i (by omega)).2.1, (hC2.2 i (by omega)).1, zi_nI, zi_nI, zi_sub, zi_mul, zab (by omega), zi_lt (by omega) (by omega)] at h45
        have h45 := Int.not_le.mpr h45
        refine wx_iconst (v := 0) dX7_howManyOf_52 (by decide) ?_
        have e := lp_of53 (d := d) (K := K) (mm := m2) (g := g) (L := L) (n := n) (wi := wi) (wj := wj) (wv := wv) (v := v) (i := i) (y5 := y5) (y6 := y6) hob (fun y5 y6 => ih (i + 1) m2 _ y5 y6 (by omega) (zFk_trans hg hf) hI2)
        rw [if_neg h45] at e
        exact e
      · rw [hI2.2.1.2.1, (hC2.2 i (by omega)).2.1, (hC2.2 i (by omega)).1, zi_nI, zi_nI, zi_sub, zi_mul, zab (by omega), zi_lt (by omega) (by omega)] at h45
        have h45 := Int.not_lt.mp h45
        refine wx_iconst (v := 1) dX7_howManyOf_48 (by decide) ?_
        refine wx_goto (tgt := 53) dX7_howManyOf_49 (by decide) ?_
        have e := lp_of53 (d := d) (K := K) (mm := m2) (g := g) (L := L) (n := n) (wi := wi) (wj := wj) (wv := wv) (v := v) (i := i) (y5 := y5) (y6 := y6) hob (fun y5 y6 => ih (i + 1) m2 _ y5 y6 (by omega) (zFk_trans hg hf) hI2)
        rw [if_pos h45] at e
        exact e
theorem s_X7_howManyOf {d : Nat} {K : List Value → zS → Prop} {mm : zM} {g : Nat → Nat → Int} {L : Int} {n : Nat} {wi wj : Nat → Nat} {wv : Nat → Int} {q : Nat} (hI : zKI g L n mm) (hW : zWO n wi wj wv q) (hC : zWC wi wj wv q mm) {v : Int32} (hK : ∀ m2 : zM, zFk mm m2 → zKI g L n m2 → K [.int (zi (zWn (zFd g L n) L wi wj wv v q))] (zG m2))  : wm (d + 7) mX7_howManyOf [.ref 13, .int v] (zG mm) K := by
  refine wm_of2 (L0 := [some (.ref 13), some (.int v), none, none, none, none, none]) zCm_X7_howManyOf (Or.inl rfl) (Nat.le_of_ble_eq_true rfl) rfl ?_
  refine wx_iconst (v := 0) dX7_howManyOf_0 (by decide) ?_
  refine wx_istore_n (i := 2) dX7_howManyOf_1 rfl (Nat.le_of_ble_eq_true rfl) rfl ?_
  refine wx_iconst (v := 0) dX7_howManyOf_2 (by decide) ?_
  refine wx_istore_n (i := 3) dX7_howManyOf_3 rfl (Nat.le_of_ble_eq_true rfl) rfl ?_
  exact lp_of hW hC hK q 0 mm _ _ _ (by omega) (zFk_refl mm) hI
