/-! the grits of the class: settle, all rows -/
/-- nothing but rows and the mark that they are settled has changed -/
def zFg (mm m2 : zM) : Prop := ∀ c j, ¬ (121 ≤ c ∧ c ≤ 127) → ¬ (c = 117 ∧ j = 5) → m2 c j = mm c j
theorem zFg_refl (mm : zM) : zFg mm mm := fun _ _ _ _ => rfl
theorem zGc_fg {pt : Nat → Int} {tk : Nat → Nat} {q : Nat} {mm m1 : zM} (h : zGc pt tk q mm) (f : zFg mm m1) : zGc pt tk q m1 := zGc_of h (f 117 3 (by omega) (by omega)) (funext fun j => f 118 j (by omega) (by omega)) (funext fun j => f 119 j (by omega) (by omega))
theorem lp_gs {d : Nat} {K : List Value → zS → Prop} {mm : zM} {pt : Nat → Int} {tk : Nat → Nat} {q : Nat} (hC : zGc pt tk q mm) (hK : ∀ (m2 : zM) (R : Nat → Nat → Nat), zFg mm m2 → zGo pt tk q R m2 0 → m2 117 5 = 1 → K [] (zG m2))  : ∀ (c i : Nat) (m1 : zM) (R : Nat → Nat → Nat) (y : Option Value), i + c = (q + 1) → (zFg mm m1) → (zGo pt tk q R m1 c) → wx (d + 3) mX2_settle 15 [some (.ref 117), some (.int (zi ((c : Int) - 2))), y] [] (zG m1) K := by
  intro c
  induction c with
  | zero =>
    intro i m1 R y hi hf ho
    obtain rfl : i = (q + 1) := by omega
    refine wx_iload_n (i := 1) dX2_settle_15 rfl rfl ?_
    refine wx_iconst (v := (-1)) dX2_settle_16 (by decide) ?_
    refine wx_icmp_lt (tgt := 89) dX2_settle_17 (by decide) (fun h17 => ?_) (fun h17 => ?_)
    · skip
      refine wx_aload_n (i := 0) dX2_settle_89 rfl rfl ?_
      refine wx_iconst (v := 1) dX2_settle_90 (by decide) ?_
      refine wx_putIG (k := 117) dX2_settle_91 zF_X2_30 zKo_117 rfl (Nat.le_of_ble_eq_true rfl) rfl rfl ?_
      refine wx_vret dX2_settle_94 rfl (Or.inl rfl) ?_
      exact hK _ R (fun c j u v => (zU_off v).trans (hf c j u v)) (fun u h1 h2 => ⟨(ho u h1 h2).1, fun x hx2 => by rw [zU_ne (by omega)]; exact (ho u h1 h2).2 x hx2⟩) (zU_same _ _ _ _)
    · exact absurd (show zi (((0 : Nat) : Int) - 2) < (-1 : Int32) by rw [zm_1, zi_lt (by omega) (by omega)]; omega) h17 --end
  | succ c ih =>
    intro i m1 R y hi hf ho
    have hq6 := hC.1
    have hC1 := zGc_fg hC hf
    have hgo : ∀ m0 : zM, (∀ cc, cc ≠ 120 + 1 + c → m0 cc = m1 cc) → (∀ x, x < 2101 → m0 (120 + 1 + c) x = nI (zG0 q c x)) → wx (d + 3) mX2_settle 63 [some (.ref 117), some (.int (zi ((c : Int) - 1))), some (.int (nI c))] [] (zG m0) K := fun m0 hm hx0 => by
      have h := lp_gi (d := d) (K := K) (pt := pt) (tk := tk) (q := q) (u := c) (R := R) (m0 := m0) (by omega) (zGc_of hC1 (by rw [hm 117 (by omega)]) (hm 118 (by omega)) (hm 119 (by omega))) (fun v w1 w2 x hx2 => by rw [hm _ (by omega)]; exact (ho v (by omega) w2).2 x hx2) (fun v x w1 w2 => Nat.le_trans ((ho v (by omega) w2).1.1 x) (zG0_le q v x)) (fun m2 r y hf2 hx2 hg2 => ?_) (q - c) 0 m0 (zG0 q c) (by omega) (fun _ _ => rfl) hx0 (zGi_0 _ _ _ _ _)
      · exact h
      refine wx_inc (c := (-1)) dX2_settle_83 rfl (by decide) (Nat.le_of_ble_eq_true rfl) rfl ?_
      refine wx_goto (tgt := 15) dX2_settle_86 (by decide) ?_
      rw [show zi ((c : Int) - 1) + (-1) = zi ((c : Int) - 2) from by rw [zm_1, zi_add]; exact congrArg zi (by omega)]
      exact ih (i + 1) m2 (fun v => if v = c then r else R v) _ (by omega) (fun cc j u v => by rw [hf2 cc (by omega), hm cc (by omega)]; exact hf cc j u v) (zGo_s ho (fun cc w => by rw [hf2 cc (by omega), hm cc (by omega)]) hx2 hg2)
    rw [show (((c + 1 : Nat) : Int) - 2) = (c : Int) - 1 by omega]
    refine wx_iload_n (i := 1) dX2_settle_15 rfl rfl ?_
    refine wx_iconst (v := (-1)) dX2_settle_16 (by decide) ?_
    refine wx_icmp_lt (tgt := 89) dX2_settle_17 (by decide) (fun h17 => ?_) (fun h17 => ?_)
    · exact absurd h17 (by rw [zm_1, zi_lt (by omega) (by omega)]; omega) --end
    · skip
      refine wx_aload_n (i := 0) dX2_settle_20 rfl rfl ?_
      refine wx_getRG (k := 117) (t := 120) dX2_settle_21 zF_X2_20 zKo_117 rfl (Nat.le_of_ble_eq_true rfl) zRf_117_2 ?_
      refine wx_iload_n (i := 1) dX2_settle_24 rfl rfl ?_
      refine wx_iconst (v := 1) dX2_settle_25 (by decide) ?_
      refine wx_iadd dX2_settle_26 ?_
      refine wx_aaldG (k := 120) (j := c) dX2_settle_27 zK_120 (Nat.le_of_ble_eq_true rfl) ?_ ?_ ?_
      · (rw [zl_1, zi_add, zi_nI]; exact congrArg zi (by omega))
      · exact ⟨by omega, by decide⟩
      refine wx_sipush (v := 1000) dX2_settle_28 (by decide) ?_
      refine wx_S2 dX2_settle_31 zPS_J7_fill_53178 zLk_X2_62 (Nat.le_of_ble_eq_true rfl) (Or.inr rfl) ?_
      refine s_J7_fillG (n := 2101) (zKin_120 _ (by omega)) (by omega) (by decide) ?_
      refine wx_r0 ?_
      refine wx_iload_n (i := 1) dX2_settle_34 rfl rfl ?_
      refine wx_if_lt (tgt := 59) dX2_settle_35 (by decide) (fun h35 => ?_) (fun h35 => ?_)
      · rw [zl_0, zi_lt (by omega) (by omega)] at h35
        refine wx_iload_n (i := 1) dX2_settle_59 rfl rfl ?_
        refine wx_iconst (v := 1) dX2_settle_60 (by decide) ?_
        refine wx_iadd dX2_settle_61 ?_
        refine wx_istore_n (i := 2) dX2_settle_62 rfl (Nat.le_of_ble_eq_true rfl) rfl ?_
        rw [show zi ((c : Int) - 1) + 1 = nI c from by rw [zl_1, zi_add, zi_nI]; exact congrArg zi (by omega)]
        refine hgo _ (fun cc w => if_neg w) (fun x hx2 => ?_)
        rw [show zFl m1 (120 + 1 + c) 2101 1000 (120 + 1 + c) x = 1000 from by unfold zFl va_up; rw [if_pos rfl]; exact if_pos hx2, show zG0 q c x = 1000 from if_neg (by omega)]
        rfl
      · rw [zl_0, zi_lt (by omega) (by omega)] at h35
        refine wx_iload_n (i := 1) dX2_settle_38 rfl rfl ?_
        refine wx_aload_n (i := 0) dX2_settle_39 rfl rfl ?_
        refine wx_getIG (k := 117) dX2_settle_40 zF_X2_23 zKo_117 rfl (Nat.le_of_ble_eq_true rfl) ?_
        refine wx_iconst (v := 1) dX2_settle_43 (by decide) ?_
        refine wx_isub dX2_settle_44 ?_
        refine wx_icmp_ne (tgt := 59) dX2_settle_45 (by decide) (fun h45 => ?_) (fun h45 => ?_)
        · rw [show (zFl m1 (120 + 1 + c) 2101 1000) 117 3 = nI q from (congrFun (if_neg (by omega)) 3).trans hC1.2.1, zl_1, zi_nI, zi_sub, zi_eq (by omega) (by omega)] at h45
          refine wx_iload_n (i := 1) dX2_settle_59 rfl rfl ?_
          refine wx_iconst (v := 1) dX2_settle_60 (by decide) ?_
          refine wx_iadd dX2_settle_61 ?_
          refine wx_istore_n (i := 2) dX2_settle_62 rfl (Nat.le_of_ble_eq_true rfl) rfl ?_
          rw [show zi ((c : Int) - 1) + 1 = nI c from by rw [zl_1, zi_add, zi_nI]; exact congrArg zi (by omega)]
          refine hgo _ (fun cc w => if_neg w) (fun x hx2 => ?_)
          rw [show zFl m1 (120 + 1 + c) 2101 1000 (120 + 1 + c) x = 1000 from by unfold zFl va_up; rw [if_pos rfl]; exact if_pos hx2, show zG0 q c x = 1000 from if_neg (by omega)]
          rfl
        · rw [show (zFl m1 (120 + 1 + c) 2101 1000) 117 3 = nI q from (congrFun (if_neg (by omega)) 3).trans hC1.2.1, zl_1, zi_nI, zi_sub, zi_eq (by omega) (by omega)] at h45
          refine wx_aload_n (i := 0) dX2_settle_48 rfl rfl ?_
          refine wx_getRG (k := 117) (t := 120) dX2_settle_49 zF_X2_20 zKo_117 rfl (Nat.le_of_ble_eq_true rfl) zRf_117_2 ?_
          refine wx_iload_n (i := 1) dX2_settle_52 rfl rfl ?_
          refine wx_iconst (v := 1) dX2_settle_53 (by decide) ?_
          refine wx_iadd dX2_settle_54 ?_
          refine wx_aaldG (k := 120) (j := c) dX2_settle_55 zK_120 (Nat.le_of_ble_eq_true rfl) ?_ ?_ ?_
          · (rw [zl_1, zi_add, zi_nI]; exact congrArg zi (by omega))
          · exact ⟨by omega, by decide⟩
          refine wx_iconst (v := 0) dX2_settle_56 (by decide) ?_
          refine wx_iconst (v := 0) dX2_settle_57 (by decide) ?_
          refine wx_iastG (j := 0) dX2_settle_58 (zKin_120 _ (by omega)) (zKlt_120 _ (by omega)) rfl ?_ ?_
          · exact ⟨by omega, by decide⟩
          refine wx_iload_n (i := 1) dX2_settle_59 rfl rfl ?_
          refine wx_iconst (v := 1) dX2_settle_60 (by decide) ?_
          refine wx_iadd dX2_settle_61 ?_
          refine wx_istore_n (i := 2) dX2_settle_62 rfl (Nat.le_of_ble_eq_true rfl) rfl ?_
          rw [show zi ((c : Int) - 1) + 1 = nI c from by rw [zl_1, zi_add, zi_nI]; exact congrArg zi (by omega)]
          refine hgo _ (fun cc w => (zU_ne w).trans (if_neg w)) (fun x hx2 => ?_)
          by_cases e : x = 0
          · subst e
            rw [zU_same, show zG0 q c 0 = 0 from if_pos ⟨rfl, by omega, by omega⟩]
            rfl
          · rw [zU_off (fun w => e w.2), show zFl m1 (120 + 1 + c) 2101 1000 (120 + 1 + c) x = 1000 from by unfold zFl va_up; rw [if_pos rfl]; exact if_pos hx2, show zG0 q c x = 1000 from if_neg (fun w => e w.1)]
            rfl
