/-! the planner of the class: the minutes traced -/
theorem zPh_row {n : Nat} {h p : Nat → Int32} {r : Int32} {a b : zM} (k : zPh n h p r a) (f : ∀ c, c = 88 ∨ c = 96 ∨ c = 97 → b c = a c) : zPh n h p r b := ⟨k.1, k.2.1, by rw [f 88 (by decide)]; exact k.2.2.1, by rw [f 88 (by decide)]; exact k.2.2.2.1, fun z hz => by rw [f 96 (by decide)]; exact k.2.2.2.2.1 z hz, fun e he => by rw [f 97 (by decide)]; exact k.2.2.2.2.2 e he⟩
theorem zMz_row {n : Nat} {h p : Nat → Int32} {r : Int32} {a b : zM} (k : zMz n h p r a) (f : ∀ c, c = 88 ∨ c = 89 ∨ c = 96 ∨ c = 97 → b c = a c) : zMz n h p r b := by
  have e := f 89 (by decide)
  refine ⟨zPh_row k.1 (fun c w => f c (by omega)), ?_, ?_⟩
  · unfold zKw
    rw [e]
    exact k.2.1
  · unfold zKw
    rw [e]
    exact k.2.2
theorem zCF_60 {n : Nat} {h p : Nat → Int32} {r : Int32} {d e : Nat} (hn : n ≤ 16) (he : e ≤ n + 2) : zCF n h p r e (d + 60) := by
  have := zCF_all (n := n) (h := h) (p := p) (r := r) (d := d + 60 - 3 * e) he
  rw [show d + 60 - 3 * e + 3 * e = d + 60 by omega] at this
  exact this
theorem lp_tri {d : Nat} {K : List Value → zS → Prop} {mm : zM} {n : Nat} {h p : Nat → Int32} {r : Int32} {t : Nat} (ht : t < 3) {z s : Nat} (hz : z < n) (hs : s < 1296) (hc : zCo n h p r (n + 2 - z) s < 1000) (hK : ∀ m2 : zM, (∀ c, c ≠ 89 → m2 c = mm c) → zMz n h p r m2 → zKw m2 (z + 1) (zNx s (zSel n h p r z s)) → wx (d + 62) mX4_traceMinutes 62 [some (.ref 88), some (.ref (90 + 1 + t)), some (.int (nI s)), some (.int (nI z)), some (.int (if z < 2 then 0 else zLf h p (z - 2) s)), some (.int (nI (zSel n h p r z s)))] [] (zG m2) K)  : ∀ (c i : Nat) (m1 : zM), i + c = 5 → (∀ c, c ≠ 89 → m1 c = mm c) → (zMz n h p r m1) → (zKw m1 z s) → (zPls (zCw n h p r z (zCo n h p r (n + 1 - z)) s) (zCo n h p r (n + 2 - z) s) (5 - i) i = zSel n h p r z s) → wx (d + 62) mX4_traceMinutes 25 [some (.ref 88), some (.ref (90 + 1 + t)), some (.int (nI s)), some (.int (nI z)), some (.int (if z < 2 then 0 else zLf h p (z - 2) s)), some (.int (nI i))] [] (zG m1) K := by
  intro c
  induction c with
  | zero =>
    intro i m1 hi hf hM hkn hL
    obtain rfl : i = 5 := by omega
    refine wx_iload dX4_traceMinutes_25 rfl ?_
    refine wx_iconst (v := 5) dX4_traceMinutes_27 (by decide) ?_
    refine wx_icmp_ge (tgt := 62) dX4_traceMinutes_28 (by decide) (fun h28 => ?_) (fun h28 => ?_)
    · skip
      obtain ⟨e1, e2, e3, e4⟩ := zSel_ok hz hc
      have hL : 5 = zSel n h p r z s := hL
      rw [← hL] at e1 e2 e3 e4 hK
      exact hK m1 hf hM (hM.2.2 z s 5 (by omega) hs hkn (by unfold zMo; rw [if_pos hz]; exact Nat.le_refl _) e3 (fun k hk => by
        have := e2 k hk
        rw [zCw_y e3] at e1
        omega))
    · exact absurd (show nI 5 ≤ nI 5 from nI_le (by omega) (by omega)) h28 --end
  | succ c ih =>
    intro i m1 hi hf hM hkn hL
    refine wx_iload dX4_traceMinutes_25 rfl ?_
    refine wx_iconst (v := 5) dX4_traceMinutes_27 (by decide) ?_
    refine wx_icmp_ge (tgt := 62) dX4_traceMinutes_28 (by decide) (fun h28 => ?_) (fun h28 => ?_)
    · exact absurd (show nI 5 ≤ nI i from h28) (nI_ge (by omega) (by omega)) --end
    · skip
      refine wx_aload_n (i := 0) dX4_traceMinutes_31 rfl rfl ?_
      refine wx_iload_n (i := 3) dX4_traceMinutes_32 rfl rfl ?_
      refine wx_iload_n (i := 2) dX4_traceMinutes_33 rfl rfl ?_
      refine wx_iload dX4_traceMinutes_34 rfl ?_
      refine wx_iload dX4_traceMinutes_36 rfl ?_
      refine wx_V4 dX4_traceMinutes_38 zPV_X4_costWith zLk_X4_90 rfl (Nat.le_of_ble_eq_true rfl) (Nat.le_of_ble_eq_true rfl) (Or.inr rfl) ?_
      refine s_X4_costWith (e := n + 1 - z) hM (by omega) hs (zCF_60 hM.1.2.1 (by omega)) (show i ≤ 5 by omega) (fun m2 hf2 hM2 hk2 => ?_)
      have hb1 := zCo_le (n := n) (h := h) (p := p) (r := r) (n + 2 - z) s
      have hb2 := zCw_le (n := n) (h := h) (p := p) (r := r) (z := z) (c := n + 1 - z) (s := s) (m := i) hM.1.2.1
      have hkn2 := zKw_fp hf2 hkn
      refine wx_r1 ?_
      refine wx_aload_n (i := 0) dX4_traceMinutes_41 rfl rfl ?_
      refine wx_getRG (k := 88) (t := 89) dX4_traceMinutes_42 zF_X4_11 zKo_88 rfl (Nat.le_of_ble_eq_true rfl) zRf_88_1 ?_
      refine wx_iload_n (i := 3) dX4_traceMinutes_45 rfl rfl ?_
      refine wx_sipush (v := 1296) dX4_traceMinutes_46 (by decide) ?_
      refine wx_imul dX4_traceMinutes_49 ?_
      refine wx_iload_n (i := 2) dX4_traceMinutes_50 rfl rfl ?_
      refine wx_iadd dX4_traceMinutes_51 ?_
      refine wx_ialdG (k := 89) (j := z * 1296 + s) dX4_traceMinutes_52 zK_89 (Nat.le_of_ble_eq_true rfl) ?_ ?_ ?_
      · (rw [show (1296 : Int32) = nI 1296 from rfl, nI_mul, nI_add])
      · exact ⟨by have := hM.1.2.1; omega, by decide⟩
      rw [hM2.2.1 z s (by omega) hs hkn2]
      refine wx_icmp_le (tgt := 62) dX4_traceMinutes_53 (by decide) (fun h53 => ?_) (fun h53 => ?_)
      · rw [nI_leI (by omega) (by omega)] at h53
        have hL2 : zPls (zCw n h p r z (zCo n h p r (n + 1 - z)) s) (zCo n h p r (n + 2 - z) s) (5 - i) i = i := by
          rw [show 5 - i = (4 - i) + 1 by omega]
          exact if_pos h53
        rw [hL2] at hL
        obtain ⟨e1, e2, e3, e4⟩ := zSel_ok hz hc
        rw [← hL] at e1 e2 e3 e4 hK
        exact hK m2 (fun c w => (hf2.1 c w).trans (hf c w)) hM2 (hk2 e3 (by omega))
      · rw [nI_leI (by omega) (by omega)] at h53
        refine wx_inc (c := 1) dX4_traceMinutes_56 rfl (by decide) (Nat.le_of_ble_eq_true rfl) rfl ?_
        refine wx_goto (tgt := 25) dX4_traceMinutes_59 (by decide) ?_
        rw [nI_1]
        have hL2 : zPls (zCw n h p r z (zCo n h p r (n + 1 - z)) s) (zCo n h p r (n + 2 - z) s) (5 - i) i = zPls (zCw n h p r z (zCo n h p r (n + 1 - z)) s) (zCo n h p r (n + 2 - z) s) (5 - (i + 1)) (i + 1) := by
          rw [show 5 - i = (5 - (i + 1)) + 1 by omega]
          exact if_neg h53
        rw [hL2] at hL
        exact ih (i + 1) m2 (by omega) (fun c w => (hf2.1 c w).trans (hf c w)) hM2 hkn2 hL
theorem lp_tro {d : Nat} {K : List Value → zS → Prop} {mm : zM} {n : Nat} {h p : Nat → Int32} {r : Int32} {t : Nat} (ht : t < 3) (hc : zCo n h p r (n + 2) 0 < 1000) (hn : n ≤ 16) (hK : ∀ m2 : zM, (∀ c, c ≠ 89 → c ≠ 90 + 1 + t → m2 c = mm c) → (∀ z, z < n → m2 (90 + 1 + t) z = nI (zPmi n h p r z)) → K [] (zG m2))  : ∀ (c i : Nat) (m1 : zM) (y4 y5 : Option Value), i + c = n → (∀ c, c ≠ 89 → c ≠ 90 + 1 + t → m1 c = mm c) → (zMz n h p r m1) → (i < n → zKw m1 i (zPst n h p r i)) → (∀ z, z < i → m1 (90 + 1 + t) z = nI (zPmi n h p r z)) → wx (d + 63) mX4_traceMinutes 4 [some (.ref 88), some (.ref (90 + 1 + t)), some (.int (nI (zPst n h p r i))), some (.int (nI i)), y4, y5] [] (zG m1) K := by
  intro c
  induction c with
  | zero =>
    intro i m1 y4 y5 hi hf hM hkn hr
    obtain rfl : i = n := by omega
    refine wx_iload_n (i := 3) dX4_traceMinutes_4 rfl rfl ?_
    refine wx_aload_n (i := 0) dX4_traceMinutes_5 rfl rfl ?_
    refine wx_getIG (k := 88) dX4_traceMinutes_6 zF_X4_46 zKo_88 rfl (Nat.le_of_ble_eq_true rfl) ?_
    refine wx_icmp_ge (tgt := 80) dX4_traceMinutes_9 (by decide) (fun h9 => ?_) (fun h9 => ?_)
    · skip
      refine wx_vret dX4_traceMinutes_80 rfl (Or.inl rfl) ?_
      exact hK m1 hf hr
    · exact absurd (show m1 88 8 ≤ nI i by rw [hM.1.2.2.1]; exact nI_le (Nat.le_refl _) (by omega)) h9 --end
  | succ c ih =>
    intro i m1 y4 y5 hi hf hM hkn hr
    refine wx_iload_n (i := 3) dX4_traceMinutes_4 rfl rfl ?_
    refine wx_aload_n (i := 0) dX4_traceMinutes_5 rfl rfl ?_
    refine wx_getIG (k := 88) dX4_traceMinutes_6 zF_X4_46 zKo_88 rfl (Nat.le_of_ble_eq_true rfl) ?_
    refine wx_icmp_ge (tgt := 80) dX4_traceMinutes_9 (by decide) (fun h9 => ?_) (fun h9 => ?_)
    · exact absurd (show m1 88 8 ≤ nI i from h9) (by rw [hM.1.2.2.1]; exact nI_ge (by omega) (by omega)) --end
    · skip
      refine wx_aload_n (i := 0) dX4_traceMinutes_12 rfl rfl ?_
      refine wx_iload_n (i := 3) dX4_traceMinutes_13 rfl rfl ?_
      refine wx_iconst (v := 2) dX4_traceMinutes_14 (by decide) ?_
      refine wx_isub dX4_traceMinutes_15 ?_
      refine wx_iload_n (i := 2) dX4_traceMinutes_16 rfl rfl ?_
      refine wx_V2 dX4_traceMinutes_17 zPV_X4_leftAt zLk_X4_87 rfl (Nat.le_of_ble_eq_true rfl) (Nat.le_of_ble_eq_true rfl) (Or.inr rfl) ?_
      rw [zl_2, zi_nI i, zi_sub]
      refine s_X4_leftAt hM.1 (show i < n + 2 by omega) (zPst_lt n h p r i) ?_
      rw [show zi (i : Int) = nI i from (zi_nI i).symm]
      refine wx_r1 ?_
      refine wx_istore dX4_traceMinutes_20 (Nat.le_of_ble_eq_true rfl) rfl ?_
      refine wx_iconst (v := 0) dX4_traceMinutes_22 (by decide) ?_
      refine wx_istore dX4_traceMinutes_23 (Nat.le_of_ble_eq_true rfl) rfl ?_
      rw [show (0 : Int32) = nI 0 from rfl]
      refine lp_tri ht (show i < n by omega) (zPst_lt n h p r i) (zPst_ok hc i (by omega)) (fun m2 hf2 hM2 hk2 => ?_) 5 0 m1 (by omega) (fun _ _ => rfl) hM (hkn (by omega)) rfl
      refine wx_aload_n (i := 1) dX4_traceMinutes_62 rfl rfl ?_
      refine wx_iload_n (i := 3) dX4_traceMinutes_63 rfl rfl ?_
      refine wx_iload dX4_traceMinutes_64 rfl ?_
      refine wx_iastG dX4_traceMinutes_66 (zKin_90 _ (by omega)) (zKlt_90 _ (by omega)) rfl ?_ ?_
      · exact ⟨by have := hM.1.2.1; omega, by decide⟩
      refine wx_iload_n (i := 2) dX4_traceMinutes_67 rfl rfl ?_
      refine wx_iload dX4_traceMinutes_68 rfl ?_
      refine wx_S2 dX4_traceMinutes_70 zPS_X4_stateBehind zLk_X4_94 (Nat.le_of_ble_eq_true rfl) (Or.inr rfl) ?_
      refine s_X4_stateBehind (zPst_lt n h p r i) (zSel_le n h p r i _) ?_
      refine wx_r1 ?_
      refine wx_istore_n (i := 2) dX4_traceMinutes_73 rfl (Nat.le_of_ble_eq_true rfl) rfl ?_
      refine wx_inc (c := 1) dX4_traceMinutes_74 rfl (by decide) (Nat.le_of_ble_eq_true rfl) rfl ?_
      refine wx_goto (tgt := 4) dX4_traceMinutes_77 (by decide) ?_
      rw [nI_1]
      refine ih (i + 1) _ _ _ (by omega) (fun c u1 u2 => (zU_ne u2).trans ((hf2 c u1).trans (hf c u1 u2))) (zMz_row hM2 (fun c w => zU_ne (by omega))) (fun w => ?_) ?_
      · unfold zKw
        rw [zU_ne (by omega)]
        exact hk2
      · exact zU_lt (f := fun z => nI (zPmi n h p r z)) (fun z hz => by rw [hf2 _ (by omega)]; exact hr z hz) rfl
theorem s_X4_traceMinutes {d : Nat} {K : List Value → zS → Prop} {mm : zM} {n : Nat} {h p : Nat → Int32} {r : Int32} {t : Nat} (ht : t < 3) (hM : zMz n h p r mm) (hk : zKw mm 0 0) (hc : zCo n h p r (n + 2) 0 < 1000) (hK : ∀ m2 : zM, (∀ c, c ≠ 89 → c ≠ 90 + 1 + t → m2 c = mm c) → (∀ z, z < n → m2 (90 + 1 + t) z = nI (zPmi n h p r z)) → K [] (zG m2))  : wm (d + 63) mX4_traceMinutes [.ref 88, .ref (90 + 1 + t)] (zG mm) K := by
  refine wm_of2 (L0 := [some (.ref 88), some (.ref (90 + 1 + t)), none, none, none, none]) zCm_X4_traceMinutes (Or.inl rfl) (Nat.le_of_ble_eq_true rfl) rfl ?_
  refine wx_iconst (v := 0) dX4_traceMinutes_0 (by decide) ?_
  refine wx_istore_n (i := 2) dX4_traceMinutes_1 rfl (Nat.le_of_ble_eq_true rfl) rfl ?_
  refine wx_iconst (v := 0) dX4_traceMinutes_2 (by decide) ?_
  refine wx_istore_n (i := 3) dX4_traceMinutes_3 rfl (Nat.le_of_ble_eq_true rfl) rfl ?_
  exact lp_tro ht hc hM.1.2.1 hK n 0 mm _ _ (by omega) (fun _ _ _ => rfl) hM (fun _ => hk) (fun z w => absurd w (Nat.not_lt_zero z))
