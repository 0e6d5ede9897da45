/-! the planner of the class: costs -/
def zCF (n : Nat) (h p : Nat → Int32) (r : Int32) (e d : Nat) : Prop := ∀ (K : List Value → zS → Prop) (mm : zM) (s : Nat), s < 1296 → zMz n h p r mm → (∀ m2, zPf mm m2 → zMz n h p r m2 → (0 < e → zKw m2 (n + 2 - e) s) → K [.int (nI (zCo n h p r e s))] (zG m2)) → wm d mX4_costFrom [.ref 88, .int (nI (n + 2 - e)), .int (nI s)] (zG mm) K
theorem zKw_U {m2 : zM} {slot v a b : Nat} (hv : v ≤ 17000) (k : zKw m2 a b) : zKw (zU m2 89 slot (nI v)) a b := by
  unfold zKw at k ⊢
  by_cases e : a * 1296 + b = slot
  · rw [e, zU_same]
    intro w
    rw [zm_1, zi_nI, zi_eq (by omega) (by omega)] at w
    omega
  · rw [zU_off (fun w => e w.2)]; exact k
theorem zMz_U {n : Nat} {h p : Nat → Int32} {r : Int32} {m2 : zM} {z s e : Nat} (hz : z + e = n + 1) (hs : s < 1296) (hM : zMz n h p r m2) (hk : ∀ m, m ≤ zMo n z → zRt h p r z s m → (∀ k, k < m → m < zCw n h p r z (zCo n h p r e) s k) → 0 < e → zKw m2 (z + 1) (zNx s m)) : zMz n h p r (zU m2 89 (z * 1296 + s) (nI (zCo n h p r (e + 1) s))) := by
  have hv := zCo_le (n := n) (h := h) (p := p) (r := r) (e + 1) s
  refine ⟨⟨hM.1.1, hM.1.2.1, by rw [zU_ne (by decide)]; exact hM.1.2.2.1, by rw [zU_ne (by decide)]; exact hM.1.2.2.2.1, fun a ha => by rw [zU_ne (by decide)]; exact hM.1.2.2.2.2.1 a ha, fun a ha => by rw [zU_ne (by decide)]; exact hM.1.2.2.2.2.2 a ha⟩, fun a b ha hb hkn => ?_, fun a b m ha hb hkn hm hr hW => ?_⟩
  · by_cases q : a = z ∧ b = s
    · rw [q.1, q.2, zU_same, show n + 2 - z = e + 1 by omega]
    · have hne : a * 1296 + b ≠ z * 1296 + s := fun w => q (by omega)
      unfold zKw at hkn
      rw [zU_off (fun w => hne w.2)] at hkn ⊢
      exact hM.2.1 a b ha hb hkn
  · by_cases q : a = z ∧ b = s
    · rw [q.1] at hm hr hW ⊢
      rw [q.2] at hr hW ⊢
      rw [show n + 1 - z = e by omega] at hW
      exact zKw_U hv (hk m hm hr hW (by omega))
    · have hne : a * 1296 + b ≠ z * 1296 + s := fun w => q (by omega)
      unfold zKw at hkn
      rw [zU_off (fun w => hne w.2)] at hkn
      exact zKw_U hv (hM.2.2 a b m ha hb hkn hm hr hW)
theorem zPf_U {mm m2 : zM} {slot : Nat} {v : Int32} (hf : zPf mm m2) (hu : mm 89 slot = -1) : zPf mm (zU m2 89 slot v) := ⟨fun c w => (zU_ne w).trans (hf.1 c w), fun j w => (zU_off (fun q => w (by rw [q.2]; exact hu))).trans (hf.2 j w)⟩
theorem s_X4_costWith {d : Nat} {K : List Value → zS → Prop} {mm : zM} {n : Nat} {h p : Nat → Int32} {r : Int32} (hM : zMz n h p r mm) {z s e : Nat} (hz : z + e = n + 1) (hs : s < 1296) (hcf : zCF n h p r e d) {m : Nat} (hm : m ≤ 5) (hK : ∀ m2, zPf mm m2 → zMz n h p r m2 → (zRt h p r z s m → 0 < e → zKw m2 (z + 1) (zNx s m)) → K [.int (nI (zCw n h p r z (zCo n h p r e) s m))] (zG m2))  : wm (d + 1) mX4_costWith [.ref 88, .int (nI z), .int (nI s), .int (nI m), .int (if z < 2 then 0 else zLf h p (z - 2) s)] (zG mm) K := by
  have hP := hM.1
  obtain ⟨hn4, hn16, -⟩ := id hP
  refine wm_of2 (L0 := [some (.ref 88), some (.int (nI z)), some (.int (nI s)), some (.int (nI m)), some (.int (if z < 2 then 0 else zLf h p (z - 2) s)), none]) zCm_X4_costWith (Or.inl rfl) (Nat.le_of_ble_eq_true rfl) rfl ?_
  refine wx_iload dX4_costWith_0 rfl ?_
  refine wx_iload_n (i := 3) dX4_costWith_2 rfl rfl ?_
  refine wx_aload_n (i := 0) dX4_costWith_3 rfl rfl ?_
  refine wx_getRG (k := 88) (t := 97) dX4_costWith_4 zF_X4_29 zKo_88 rfl (Nat.le_of_ble_eq_true rfl) zRf_88_6 ?_
  refine wx_iconst (v := 0) dX4_costWith_7 (by decide) ?_
  refine wx_ialdG (k := 97) (j := 0) dX4_costWith_8 zK_97 (Nat.le_of_ble_eq_true rfl) rfl ?_ ?_
  · exact ⟨by omega, by decide⟩
  rw [hP.2.2.2.2.2 0 (by omega)]
  refine wx_imul dX4_costWith_9 ?_
  refine wx_isub dX4_costWith_10 ?_
  refine wx_istore dX4_costWith_11 (Nat.le_of_ble_eq_true rfl) rfl ?_
  refine wx_iload_n (i := 1) dX4_costWith_13 rfl rfl ?_
  refine wx_iconst (v := 2) dX4_costWith_14 (by decide) ?_
  refine wx_icmp_lt (tgt := 45) dX4_costWith_15 (by decide) (fun h15 => ?_) (fun h15 => ?_)
  · rw [zl_2, zi_nI, zi_lt (by omega) (by omega)] at h15
    have hr : zRt h p r z s m := Or.inl (by omega)
    refine wx_iload_n (i := 3) dX4_costWith_45 rfl rfl ?_
    refine wx_aload_n (i := 0) dX4_costWith_46 rfl rfl ?_
    refine wx_iload_n (i := 1) dX4_costWith_47 rfl rfl ?_
    refine wx_iconst (v := 1) dX4_costWith_48 (by decide) ?_
    refine wx_iadd dX4_costWith_49 ?_
    refine wx_iload_n (i := 2) dX4_costWith_50 rfl rfl ?_
    refine wx_iload_n (i := 3) dX4_costWith_51 rfl rfl ?_
    refine wx_S2 dX4_costWith_52 zPS_X4_stateBehind zLk_X4_94 (Nat.le_of_ble_eq_true rfl) (Or.inr rfl) ?_
    refine s_X4_stateBehind hs hm ?_
    refine wx_r1 ?_
    refine wx_V2 dX4_costWith_55 zPV_X4_costFrom zLk_X4_63 rfl (Nat.le_of_ble_eq_true rfl) (Nat.le_of_ble_eq_true rfl) (Or.inr rfl) ?_
    rw [nI_1, show z + 1 = n + 2 - e by omega]
    refine hcf _ mm _ (zNx_lt _ _) hM (fun m2 hf hM2 hk => ?_)
    refine wx_r1 ?_
    refine wx_iadd dX4_costWith_58 ?_
    refine wx_iret dX4_costWith_59 rfl rfl (Or.inl rfl) ?_
    rw [nI_add]
    exact zki (hK m2 hf hM2 (fun _ c0 => by rw [show z + 1 = n + 2 - e by omega]; exact hk c0)) (congrArg nI (zCw_y hr))
  · rw [zl_2, zi_nI, zi_lt (by omega) (by omega)] at h15
    have hz2 : ¬ z < 2 := by omega
    rw [if_neg hz2]
    refine wx_iload dX4_costWith_18 rfl ?_
    refine wx_if_lt (tgt := 32) dX4_costWith_20 (by decide) (fun h20 => ?_) (fun h20 => ?_)
    · have hno : ¬ zRt h p r z s m := fun w => w.elim hz2 (fun q => z_ltn h20 q.1)
      refine wx_aload_n (i := 0) dX4_costWith_32 rfl rfl ?_
      refine wx_getIG (k := 88) dX4_costWith_33 zF_X4_46 zKo_88 rfl (Nat.le_of_ble_eq_true rfl) ?_
      refine wx_iload_n (i := 1) dX4_costWith_36 rfl rfl ?_
      refine wx_isub dX4_costWith_37 ?_
      refine wx_iconst (v := 2) dX4_costWith_38 (by decide) ?_
      refine wx_iadd dX4_costWith_39 ?_
      refine wx_sipush (v := 1000) dX4_costWith_40 (by decide) ?_
      refine wx_imul dX4_costWith_43 ?_
      refine wx_iret dX4_costWith_44 rfl rfl (Or.inl rfl) ?_
      refine zki (hK mm (zPf_refl mm) hM (fun q => absurd q hno)) ?_
      rw [zCw_n hno, hP.2.2.1, zl_2, zl_1000, zi_nI, zi_nI, zi_nI, zi_sub, zi_add, zi_mul]
      exact congrArg zi (by omega)
    · skip
      refine wx_iload dX4_costWith_23 rfl ?_
      refine wx_aload_n (i := 0) dX4_costWith_25 rfl rfl ?_
      refine wx_getIG (k := 88) dX4_costWith_26 zF_X4_77 zKo_88 rfl (Nat.le_of_ble_eq_true rfl) ?_
      refine wx_icmp_le (tgt := 45) dX4_costWith_29 (by decide) (fun h29 => ?_) (fun h29 => ?_)
      · rw [hP.2.2.2.1] at h29
        have hr : zRt h p r z s m := Or.inr ⟨z_nlt h20, h29⟩
        refine wx_iload_n (i := 3) dX4_costWith_45 rfl rfl ?_
        refine wx_aload_n (i := 0) dX4_costWith_46 rfl rfl ?_
        refine wx_iload_n (i := 1) dX4_costWith_47 rfl rfl ?_
        refine wx_iconst (v := 1) dX4_costWith_48 (by decide) ?_
        refine wx_iadd dX4_costWith_49 ?_
        refine wx_iload_n (i := 2) dX4_costWith_50 rfl rfl ?_
        refine wx_iload_n (i := 3) dX4_costWith_51 rfl rfl ?_
        refine wx_S2 dX4_costWith_52 zPS_X4_stateBehind zLk_X4_94 (Nat.le_of_ble_eq_true rfl) (Or.inr rfl) ?_
        refine s_X4_stateBehind hs hm ?_
        refine wx_r1 ?_
        refine wx_V2 dX4_costWith_55 zPV_X4_costFrom zLk_X4_63 rfl (Nat.le_of_ble_eq_true rfl) (Nat.le_of_ble_eq_true rfl) (Or.inr rfl) ?_
        rw [nI_1, show z + 1 = n + 2 - e by omega]
        refine hcf _ mm _ (zNx_lt _ _) hM (fun m2 hf hM2 hk => ?_)
        refine wx_r1 ?_
        refine wx_iadd dX4_costWith_58 ?_
        refine wx_iret dX4_costWith_59 rfl rfl (Or.inl rfl) ?_
        rw [nI_add]
        exact zki (hK m2 hf hM2 (fun _ c0 => by rw [show z + 1 = n + 2 - e by omega]; exact hk c0)) (congrArg nI (zCw_y hr))
      · rw [hP.2.2.2.1] at h29
        have hno : ¬ zRt h p r z s m := fun w => w.elim hz2 (fun q => h29 q.2)
        refine wx_aload_n (i := 0) dX4_costWith_32 rfl rfl ?_
        refine wx_getIG (k := 88) dX4_costWith_33 zF_X4_46 zKo_88 rfl (Nat.le_of_ble_eq_true rfl) ?_
        refine wx_iload_n (i := 1) dX4_costWith_36 rfl rfl ?_
        refine wx_isub dX4_costWith_37 ?_
        refine wx_iconst (v := 2) dX4_costWith_38 (by decide) ?_
        refine wx_iadd dX4_costWith_39 ?_
        refine wx_sipush (v := 1000) dX4_costWith_40 (by decide) ?_
        refine wx_imul dX4_costWith_43 ?_
        refine wx_iret dX4_costWith_44 rfl rfl (Or.inl rfl) ?_
        refine zki (hK mm (zPf_refl mm) hM (fun q => absurd q hno)) ?_
        rw [zCw_n hno, hP.2.2.1, zl_2, zl_1000, zi_nI, zi_nI, zi_nI, zi_sub, zi_add, zi_mul]
        exact congrArg zi (by omega)
theorem lp_lcost {d : Nat} {K : List Value → zS → Prop} {mm : zM} {n : Nat} {h p : Nat → Int32} {r : Int32} {z s e : Nat} (hz : z + e = n + 1) (hs : s < 1296) (hcf : zCF n h p r e d) (hn : n ≤ 16) (hK : ∀ m2, zPf mm m2 → zMz n h p r m2 → (∀ m, m ≤ zMo n z → zRt h p r z s m → (∀ k, k < m → m < zCw n h p r z (zCo n h p r e) s k) → 0 < e → zKw m2 (z + 1) (zNx s m)) → K [.int (nI (zCo n h p r (e + 1) s))] (zG m2))  : ∀ (c i : Nat) (m1 : zM), i + c = (zMo n z + 1) → (zPf mm m1) → (zMz n h p r m1) → (∀ m, m < i → zRt h p r z s m → 0 < e → zKw m1 (z + 1) (zNx s m)) → wx (d + 2) mX4_leastCost 32 [some (.ref 88), some (.int (nI z)), some (.int (nI s)), some (.int (nI (zMo n z))), some (.int (if z < 2 then 0 else zLf h p (z - 2) s)), some (.int (nI (zLm 17000 (zCw n h p r z (zCo n h p r e) s) i))), some (.int (nI i))] [] (zG m1) K := by
  intro c
  induction c with
  | zero =>
    intro i m1 hi hf hM1 hk
    obtain rfl : i = (zMo n z + 1) := by omega
    have hmo := zMo_le n z
    have hb0 := zLm_le 17000 (zCw n h p r z (zCo n h p r e) s) (zMo n z + 1)
    refine wx_iload dX4_leastCost_32 rfl ?_
    refine wx_iload_n (i := 3) dX4_leastCost_34 rfl rfl ?_
    refine wx_icmp_gt (tgt := 68) dX4_leastCost_35 (by decide) (fun h35 => ?_) (fun h35 => ?_)
    · skip
      refine wx_iload dX4_leastCost_68 rfl ?_
      refine wx_iret dX4_leastCost_70 rfl rfl (Or.inl rfl) ?_
      exact zki (hK m1 hf hM1 (fun m a b _ c0 => hk m (by omega) b c0)) (congrArg nI (zCo_s hz s))
    · exact absurd (nI_lt (Nat.lt_succ_self _) (by omega)) h35 --end
  | succ c ih =>
    intro i m1 hi hf hM1 hk
    have hmo := zMo_le n z
    have hb0 := zLm_le 17000 (zCw n h p r z (zCo n h p r e) s) i
    refine wx_iload dX4_leastCost_32 rfl ?_
    refine wx_iload_n (i := 3) dX4_leastCost_34 rfl rfl ?_
    refine wx_icmp_gt (tgt := 68) dX4_leastCost_35 (by decide) (fun h35 => ?_) (fun h35 => ?_)
    · exact absurd h35 (nI_nlt (by omega) (by omega)) --end
    · skip
      refine wx_iload dX4_leastCost_38 rfl ?_
      refine wx_iload dX4_leastCost_40 rfl ?_
      refine wx_icmp_ge (tgt := 68) dX4_leastCost_42 (by decide) (fun h42 => ?_) (fun h42 => ?_)
      · rw [nI_leI (by omega) (by omega)] at h42
        have hge := fun j (a : i ≤ j) (b : j < zMo n z + 1) => Nat.le_trans h42 (Nat.le_trans a (zCw_ge (h := h) (p := p) (r := r) (c := e) (s := s) (show z ≤ n + 1 by omega) (show j ≤ 5 by omega)))
        have hend := zLm_end hge (by omega)
        refine wx_iload dX4_leastCost_68 rfl ?_
        refine wx_iret dX4_leastCost_70 rfl rfl (Or.inl rfl) ?_
        refine zki (hK m1 hf hM1 (fun m a b w c0 => hk m (Nat.lt_of_not_le fun q => ?_) b c0)) (congrArg nI ((zCo_s hz s).trans hend))
        rcases zLm_at 17000 (zCw n h p r z (zCo n h p r e) s) i with z1 | ⟨j, z1, z2⟩
        · omega
        · have := w j (by omega)
          omega
      · skip
        refine wx_iload dX4_leastCost_45 rfl ?_
        refine wx_aload_n (i := 0) dX4_leastCost_47 rfl rfl ?_
        refine wx_iload_n (i := 1) dX4_leastCost_48 rfl rfl ?_
        refine wx_iload_n (i := 2) dX4_leastCost_49 rfl rfl ?_
        refine wx_iload dX4_leastCost_50 rfl ?_
        refine wx_iload dX4_leastCost_52 rfl ?_
        refine wx_V4 dX4_leastCost_54 zPV_X4_costWith zLk_X4_90 rfl (Nat.le_of_ble_eq_true rfl) (Nat.le_of_ble_eq_true rfl) (Or.inr rfl) ?_
        refine s_X4_costWith hM1 hz hs hcf (show i ≤ 5 by omega) (fun m2 hf2 hM2 hk2 => ?_)
        have hb1 := zLm_le 17000 (zCw n h p r z (zCo n h p r e) s) i
        have hb2 := zCw_le (n := n) (h := h) (p := p) (r := r) (z := z) (c := e) (s := s) (m := i) hn
        refine wx_r1 ?_
        refine wx_S2 dX4_leastCost_57 zPS_J9_min_7cf53 zLk_X4_100 (Nat.le_of_ble_eq_true rfl) (Or.inr rfl) ?_
        refine s_J9_min_7cf53 _ _ ?_
        refine wx_r1 ?_
        refine wx_istore dX4_leastCost_60 (Nat.le_of_ble_eq_true rfl) rfl ?_
        refine wx_inc (c := 1) dX4_leastCost_62 rfl (by decide) (Nat.le_of_ble_eq_true rfl) rfl ?_
        refine wx_goto (tgt := 32) dX4_leastCost_65 (by decide) ?_
        rw [nI_1]
        have e1 : (if nI (zLm 17000 (zCw n h p r z (zCo n h p r e) s) i) ≤ nI (zCw n h p r z (zCo n h p r e) s i) then nI (zLm 17000 (zCw n h p r z (zCo n h p r e) s) i) else nI (zCw n h p r z (zCo n h p r e) s i)) = nI (zLm 17000 (zCw n h p r z (zCo n h p r e) s) (i + 1)) := by
          show _ = nI (if zCw n h p r z (zCo n h p r e) s i < zLm 17000 (zCw n h p r z (zCo n h p r e) s) i then zCw n h p r z (zCo n h p r e) s i else zLm 17000 (zCw n h p r z (zCo n h p r e) s) i)
          by_cases q : zCw n h p r z (zCo n h p r e) s i < zLm 17000 (zCw n h p r z (zCo n h p r e) s) i
          · rw [if_pos q, if_neg (nI_ge q (by omega))]
          · rw [if_neg q, if_pos (nI_le (by omega) (by omega))]
        rw [e1]
        refine ih (i + 1) m2 (by omega) (zPf_trans hf hf2) hM2 (fun m a b c0 => ?_)
        by_cases q : m = i
        · subst q; exact hk2 b c0
        · exact zKw_fp hf2 (hk m (by omega) b c0)
theorem s_X4_leastCost {d : Nat} {K : List Value → zS → Prop} {mm : zM} {n : Nat} {h p : Nat → Int32} {r : Int32} (hM : zMz n h p r mm) {z s e : Nat} (hz : z + e = n + 1) (hs : s < 1296) (hcf : zCF n h p r e d) (hK : ∀ m2, zPf mm m2 → zMz n h p r m2 → (∀ m, m ≤ zMo n z → zRt h p r z s m → (∀ k, k < m → m < zCw n h p r z (zCo n h p r e) s k) → 0 < e → zKw m2 (z + 1) (zNx s m)) → K [.int (nI (zCo n h p r (e + 1) s))] (zG m2))  : wm (d + 2) mX4_leastCost [.ref 88, .int (nI z), .int (nI s)] (zG mm) K := by
  have hP := hM.1
  obtain ⟨hn4, hn16, -⟩ := id hP
  refine wm_of2 (L0 := [some (.ref 88), some (.int (nI z)), some (.int (nI s)), none, none, none, none]) zCm_X4_leastCost (Or.inl rfl) (Nat.le_of_ble_eq_true rfl) rfl ?_
  refine wx_iload_n (i := 1) dX4_leastCost_0 rfl rfl ?_
  refine wx_aload_n (i := 0) dX4_leastCost_1 rfl rfl ?_
  refine wx_getIG (k := 88) dX4_leastCost_2 zF_X4_46 zKo_88 rfl (Nat.le_of_ble_eq_true rfl) ?_
  refine wx_icmp_ge (tgt := 12) dX4_leastCost_5 (by decide) (fun h5 => ?_) (fun h5 => ?_)
  · rw [hP.2.2.1, nI_leI (by omega) (by omega)] at h5
    have hmo : zMo n z = 0 := if_neg (by omega)
    refine wx_iconst (v := 0) dX4_leastCost_12 (by decide) ?_
    first | rw [show (5 : Int32) = nI (zMo n z) from by rw [hmo]; rfl] | rw [show (0 : Int32) = nI (zMo n z) from by rw [hmo]; rfl]
    refine wx_istore_n (i := 3) dX4_leastCost_13 rfl (Nat.le_of_ble_eq_true rfl) rfl ?_
    refine wx_aload_n (i := 0) dX4_leastCost_14 rfl rfl ?_
    refine wx_iload_n (i := 1) dX4_leastCost_15 rfl rfl ?_
    refine wx_iconst (v := 2) dX4_leastCost_16 (by decide) ?_
    refine wx_isub dX4_leastCost_17 ?_
    refine wx_iload_n (i := 2) dX4_leastCost_18 rfl rfl ?_
    refine wx_V2 dX4_leastCost_19 zPV_X4_leftAt zLk_X4_87 rfl (Nat.le_of_ble_eq_true rfl) (Nat.le_of_ble_eq_true rfl) (Or.inr rfl) ?_
    rw [zl_2, zi_nI z, zi_sub]
    refine s_X4_leftAt hP (show z < n + 2 by omega) hs ?_
    rw [show zi (z : Int) = nI z from (zi_nI z).symm]
    refine wx_r1 ?_
    refine wx_istore dX4_leastCost_22 (Nat.le_of_ble_eq_true rfl) rfl ?_
    refine wx_sipush (v := 17000) dX4_leastCost_24 (by decide) ?_
    refine wx_istore dX4_leastCost_27 (Nat.le_of_ble_eq_true rfl) rfl ?_
    refine wx_iconst (v := 0) dX4_leastCost_29 (by decide) ?_
    refine wx_istore dX4_leastCost_30 (Nat.le_of_ble_eq_true rfl) rfl ?_
    exact lp_lcost hz hs hcf hn16 hK (zMo n z + 1) 0 mm (by omega) (zPf_refl mm) hM (fun m a => absurd a (Nat.not_lt_zero m))
  · rw [hP.2.2.1, nI_leI (by omega) (by omega)] at h5
    have hmo : zMo n z = 5 := if_pos (by omega)
    refine wx_iconst (v := 5) dX4_leastCost_8 (by decide) ?_
    refine wx_goto (tgt := 13) dX4_leastCost_9 (by decide) ?_
    first | rw [show (5 : Int32) = nI (zMo n z) from by rw [hmo]; rfl] | rw [show (0 : Int32) = nI (zMo n z) from by rw [hmo]; rfl]
    refine wx_istore_n (i := 3) dX4_leastCost_13 rfl (Nat.le_of_ble_eq_true rfl) rfl ?_
    refine wx_aload_n (i := 0) dX4_leastCost_14 rfl rfl ?_
    refine wx_iload_n (i := 1) dX4_leastCost_15 rfl rfl ?_
    refine wx_iconst (v := 2) dX4_leastCost_16 (by decide) ?_
    refine wx_isub dX4_leastCost_17 ?_
    refine wx_iload_n (i := 2) dX4_leastCost_18 rfl rfl ?_
    refine wx_V2 dX4_leastCost_19 zPV_X4_leftAt zLk_X4_87 rfl (Nat.le_of_ble_eq_true rfl) (Nat.le_of_ble_eq_true rfl) (Or.inr rfl) ?_
    rw [zl_2, zi_nI z, zi_sub]
    refine s_X4_leftAt hP (show z < n + 2 by omega) hs ?_
    rw [show zi (z : Int) = nI z from (zi_nI z).symm]
    refine wx_r1 ?_
    refine wx_istore dX4_leastCost_22 (Nat.le_of_ble_eq_true rfl) rfl ?_
    refine wx_sipush (v := 17000) dX4_leastCost_24 (by decide) ?_
    refine wx_istore dX4_leastCost_27 (Nat.le_of_ble_eq_true rfl) rfl ?_
    refine wx_iconst (v := 0) dX4_leastCost_29 (by decide) ?_
    refine wx_istore dX4_leastCost_30 (Nat.le_of_ble_eq_true rfl) rfl ?_
    exact lp_lcost hz hs hcf hn16 hK (zMo n z + 1) 0 mm (by omega) (zPf_refl mm) hM (fun m a => absurd a (Nat.not_lt_zero m))
theorem zCF_all {n : Nat} {h p : Nat → Int32} {r : Int32} {d : Nat} : ∀ {e : Nat}, e ≤ n + 2 → zCF n h p r e (d + 3 * e) := by
  intro e
  induction e with
  | zero =>
    intro he K mm s hs hM hK
    have hP := hM.1
    obtain ⟨hn4, hn16, -⟩ := id hP
    refine wm_of2 (L0 := [some (.ref 88), some (.int (nI (n + 2 - 0))), some (.int (nI s)), none]) zCm_X4_costFrom (Or.inl rfl) (Nat.le_of_ble_eq_true rfl) rfl ?_
    refine wx_iload_n (i := 1) dX4_costFrom_0 rfl rfl ?_
    refine wx_if_lt (tgt := 25) dX4_costFrom_1 (by decide) (fun h1 => ?_) (fun h1 => ?_)
    · rw [show (0 : Int32) = nI 0 from rfl] at h1
      exact absurd h1 (nI_nlt (by omega) (by omega)) --end
    · skip
      refine wx_iload_n (i := 1) dX4_costFrom_4 rfl rfl ?_
      refine wx_aload_n (i := 0) dX4_costFrom_5 rfl rfl ?_
      refine wx_getIG (k := 88) dX4_costFrom_6 zF_X4_46 zKo_88 rfl (Nat.le_of_ble_eq_true rfl) ?_
      refine wx_iconst (v := 2) dX4_costFrom_9 (by decide) ?_
      refine wx_iadd dX4_costFrom_10 ?_
      refine wx_icmp_ge (tgt := 25) dX4_costFrom_11 (by decide) (fun h11 => ?_) (fun h11 => ?_)
      · skip
        refine wx_iconst (v := 0) dX4_costFrom_25 (by decide) ?_
        refine wx_iret dX4_costFrom_26 rfl rfl (Or.inl rfl) ?_
        exact hK mm (zPf_refl mm) hM (fun w => absurd w (by omega))
      · exact absurd (show mm 88 8 + 2 ≤ nI (n + 2 - 0) by rw [hP.2.2.1, show (2 : Int32) = nI 2 from rfl, nI_add]; exact nI_le (by omega) (by omega)) h11 --end
  | succ e ih =>
    intro he K mm s hs hM hK
    have hP := hM.1
    obtain ⟨hn4, hn16, -⟩ := id hP
    refine wm_of2 (L0 := [some (.ref 88), some (.int (nI (n + 2 - (e + 1)))), some (.int (nI s)), none]) zCm_X4_costFrom (Or.inl rfl) (Nat.le_of_ble_eq_true rfl) rfl ?_
    refine wx_iload_n (i := 1) dX4_costFrom_0 rfl rfl ?_
    refine wx_if_lt (tgt := 25) dX4_costFrom_1 (by decide) (fun h1 => ?_) (fun h1 => ?_)
    · rw [show (0 : Int32) = nI 0 from rfl] at h1
      exact absurd h1 (nI_nlt (by omega) (by omega)) --end
    · skip
      refine wx_iload_n (i := 1) dX4_costFrom_4 rfl rfl ?_
      refine wx_aload_n (i := 0) dX4_costFrom_5 rfl rfl ?_
      refine wx_getIG (k := 88) dX4_costFrom_6 zF_X4_46 zKo_88 rfl (Nat.le_of_ble_eq_true rfl) ?_
      refine wx_iconst (v := 2) dX4_costFrom_9 (by decide) ?_
      refine wx_iadd dX4_costFrom_10 ?_
      refine wx_icmp_ge (tgt := 25) dX4_costFrom_11 (by decide) (fun h11 => ?_) (fun h11 => ?_)
      · rw [hP.2.2.1, show (2 : Int32) = nI 2 from rfl, nI_add, nI_leI (by omega) (by omega)] at h11
        exact absurd h11 (by omega) --end
      · skip
        refine wx_iload_n (i := 2) dX4_costFrom_14 rfl rfl ?_
        refine wx_if_lt (tgt := 25) dX4_costFrom_15 (by decide) (fun h15 => ?_) (fun h15 => ?_)
        · rw [show (0 : Int32) = nI 0 from rfl] at h15
          exact absurd h15 (nI_nlt (by omega) (by omega)) --end
        · skip
          refine wx_iload_n (i := 2) dX4_costFrom_18 rfl rfl ?_
          refine wx_sipush (v := 1296) dX4_costFrom_19 (by decide) ?_
          refine wx_icmp_lt (tgt := 27) dX4_costFrom_22 (by decide) (fun h22 => ?_) (fun h22 => ?_)
          · skip
            refine wx_iload_n (i := 1) dX4_costFrom_27 rfl rfl ?_
            refine wx_sipush (v := 1296) dX4_costFrom_28 (by decide) ?_
            refine wx_imul dX4_costFrom_31 ?_
            refine wx_iload_n (i := 2) dX4_costFrom_32 rfl rfl ?_
            refine wx_iadd dX4_costFrom_33 ?_
            rw [show (1296 : Int32) = nI 1296 from rfl, nI_mul, nI_add]
            refine wx_istore_n (i := 3) dX4_costFrom_34 rfl (Nat.le_of_ble_eq_true rfl) rfl ?_
            refine wx_aload_n (i := 0) dX4_costFrom_35 rfl rfl ?_
            refine wx_getRG (k := 88) (t := 89) dX4_costFrom_36 zF_X4_11 zKo_88 rfl (Nat.le_of_ble_eq_true rfl) zRf_88_1 ?_
            refine wx_iload_n (i := 3) dX4_costFrom_39 rfl rfl ?_
            refine wx_ialdG (k := 89) dX4_costFrom_40 zK_89 (Nat.le_of_ble_eq_true rfl) rfl ?_ ?_
            · exact ⟨by omega, by decide⟩
            refine wx_iconst (v := (-1)) dX4_costFrom_41 (by decide) ?_
            refine wx_icmp_ne (tgt := 57) dX4_costFrom_42 (by decide) (fun h42 => ?_) (fun h42 => ?_)
            · skip
              refine wx_aload_n (i := 0) dX4_costFrom_57 rfl rfl ?_
              refine wx_getRG (k := 88) (t := 89) dX4_costFrom_58 zF_X4_11 zKo_88 rfl (Nat.le_of_ble_eq_true rfl) zRf_88_1 ?_
              refine wx_iload_n (i := 3) dX4_costFrom_61 rfl rfl ?_
              refine wx_ialdG (k := 89) dX4_costFrom_62 zK_89 (Nat.le_of_ble_eq_true rfl) rfl ?_ ?_
              · exact ⟨by omega, by decide⟩
              refine wx_iret dX4_costFrom_63 rfl rfl (Or.inl rfl) ?_
              refine zki (hK mm (zPf_refl mm) hM (fun _ => h42)) ?_
              rw [hM.2.1 (n + 2 - (e + 1)) s (by omega) hs h42, show n + 2 - (n + 2 - (e + 1)) = e + 1 by omega]
            · skip
              refine wx_aload_n (i := 0) dX4_costFrom_45 rfl rfl ?_
              refine wx_getRG (k := 88) (t := 89) dX4_costFrom_46 zF_X4_11 zKo_88 rfl (Nat.le_of_ble_eq_true rfl) zRf_88_1 ?_
              refine wx_iload_n (i := 3) dX4_costFrom_49 rfl rfl ?_
              refine wx_aload_n (i := 0) dX4_costFrom_50 rfl rfl ?_
              refine wx_iload_n (i := 1) dX4_costFrom_51 rfl rfl ?_
              refine wx_iload_n (i := 2) dX4_costFrom_52 rfl rfl ?_
              refine wx_V2 dX4_costFrom_53 zPV_X4_leastCost zLk_X4_97 rfl (Nat.le_of_ble_eq_true rfl) (Nat.le_of_ble_eq_true rfl) (Or.inr rfl) ?_
              refine s_X4_leastCost hM (show n + 2 - (e + 1) + e = n + 1 by omega) hs (ih (by omega)) (fun m2 hf hM2 hk => ?_)
              refine wx_r1 ?_
              refine wx_iastG (k := 89) dX4_costFrom_56 zK_89 (Nat.le_of_ble_eq_true rfl) rfl ?_ ?_
              · exact ⟨by omega, by decide⟩
              refine wx_aload_n (i := 0) dX4_costFrom_57 rfl rfl ?_
              refine wx_getRG (k := 88) (t := 89) dX4_costFrom_58 zF_X4_11 zKo_88 rfl (Nat.le_of_ble_eq_true rfl) zRf_88_1 ?_
              refine wx_iload_n (i := 3) dX4_costFrom_61 rfl rfl ?_
              refine wx_ialdG (k := 89) dX4_costFrom_62 zK_89 (Nat.le_of_ble_eq_true rfl) rfl ?_ ?_
              · exact ⟨by omega, by decide⟩
              refine wx_iret dX4_costFrom_63 rfl rfl (Or.inl rfl) ?_
              rw [zU_same]
              exact hK _ (zPf_U hf h42) (zMz_U (z := n + 2 - (e + 1)) (by omega) hs hM2 hk) (fun _ => by
                unfold zKw
                rw [zU_same]
                intro w
                have hv := zCo_le (n := n) (h := h) (p := p) (r := r) (e + 1) s
                rw [zm_1, zi_nI, zi_eq (by omega) (by omega)] at w
                omega)
          · exact absurd (show nI s < nI 1296 from nI_lt hs (by omega)) h22 --end
