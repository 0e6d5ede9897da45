/-! bear of the reference; the rings of the class begin anew -/
theorem s_X9_bear_bad {d : Nat} {K : List Value → zS → Prop} {mm : zM} {a : Int32} (hb : ¬ ((-1 ≤ a ∧ a ≤ 5))) (hK : K [.int (-1)] (zG mm)) : wm (d + 2) mX9_bear [.ref 128, .int a] (zG mm) K := by
  refine wm_of2 (L0 := [some (.ref 128), some (.int a), none, none, none, none, none]) zCm_X9_bear (Or.inl rfl) (Nat.le_of_ble_eq_true rfl) rfl ?_
  refine wx_iload_n (i := 1) dX9_bear_0 rfl rfl ?_
  refine wx_iconst (v := (-1)) dX9_bear_1 (by decide) ?_
  refine wx_iconst (v := 5) dX9_bear_2 (by decide) ?_
  refine wx_S3 dX9_bear_3 zPS_X9_in zLk_X9_116 (Nat.le_of_ble_eq_true rfl) (Or.inr rfl) ?_
  refine s_X9_in _ _ _ ?_
  refine wx_r1 ?_
  refine wx_neb (tgt := 11) dX9_bear_6 (by decide) (fun h6 => ?_) (fun h6 => ?_)
  · skip
    exact (hb (by assumption)).elim
  · skip
    refine wx_iconst (v := (-1)) dX9_bear_9 (by decide) ?_
    refine wx_iret dX9_bear_10 rfl rfl (Or.inl rfl) ?_
    exact hK
theorem lp_bear {d : Nat} {K : List Value → zS → Prop} {mm : zM} {bd : Nat → Nat → Int} {n : Nat} (hO : zRo bd n) (hC : zMb bd n mm) (ht : ∃ t : List Nat, ∀ r, r < 6 → mm 150 r = nI (t.getD r 0)) {v : Int32} {y2 y3 y4 y5 y6 : Option Value} (hK : ∀ (m2 : zM) (z2 z3 z4 z5 z6 : Option Value), zFe mm m2 → zMs2 (zBr bd n) m2 → wx (d + 2) mX9_bear 174 [some (.ref 128), some (.int v), z2, z3, z4, z5, z6] [] (zG m2) K) : wx (d + 2) mX9_bear 11 [some (.ref 128), some (.int v), y2, y3, y4, y5, y6] [] (zG mm) K := by
  obtain ⟨t0, h0⟩ := ht
  refine wx_aload_n (i := 0) dX9_bear_11 rfl rfl ?_
  refine wx_ldc dX9_bear_12 zKc_X9_162 ?_
  refine wx_putIG (k := 128) dX9_bear_14 zF_X9_198 zKo_128 rfl (Nat.le_of_ble_eq_true rfl) rfl rfl ?_
  refine wx_bipush (v := 12) dX9_bear_17 (by decide) ?_
  refine wx_istore_n (i := 2) dX9_bear_19 rfl (Nat.le_of_ble_eq_true rfl) rfl ?_
  have hf : zFe mm (zU mm 128 33 1000000) := fun c j u v w => zU_off w
  have e := lp_bear_p (d := d) (v := v) hO hC (R := zBr bd n) hK 13 0 (zU mm 128 33 1000000) (1000000, t0) y3 y4 y5 y6 rfl hf ⟨⟨zU_same _ _ _ _, by show (-1000000 : Int) ≤ 1000000; decide, by show (1000000 : Int) ≤ 1000000; decide⟩, fun r hr => by rw [zU_ne (by decide)]; exact h0 r hr⟩ (zM5_fold hO (by decide) t0)
  exact e
theorem lp_bear174_all {d : Nat} {K : List Value → zS → Prop} {mm : zM} {bd : Nat → Nat → Int} {n : Nat} (hK : ∀ m2 : zM, zFe mm m2 → (∃ t : List Nat, ∀ r, r < 6 → m2 150 r = nI (t.getD r 0)) → K [.int (zi (zBr bd n).1)] (zG m2)) (m2 : zM) (z2 z3 z4 z5 z6 : Option Value) (hf : zFe mm m2) (hs : zMs2 (zBr bd n) m2) : wx (d + 2) mX9_bear 174 [some (.ref 128), some (.int (-1)), z2, z3, z4, z5, z6] [] (zG m2) K := by
  refine wx_iload_n (i := 1) dX9_bear_174 rfl rfl ?_
  refine wx_if_ge (tgt := 185) dX9_bear_175 (by decide) (fun h175 => ?_) (fun h175 => ?_)
  · exact absurd h175 (by decide) --end
  · skip
    refine wx_aload_n (i := 0) dX9_bear_178 rfl rfl ?_
    refine wx_getIG (k := 128) dX9_bear_179 zF_X9_198 zKo_128 rfl (Nat.le_of_ble_eq_true rfl) ?_
    refine wx_goto (tgt := 191) dX9_bear_182 (by decide) ?_
    refine wx_iret dX9_bear_191 rfl rfl (Or.inl rfl) ?_
    exact zki (hK m2 hf ⟨_, hs.2⟩) hs.1.1.symm
theorem s_X9_bear_all {d : Nat} {K : List Value → zS → Prop} {mm : zM} {bd : Nat → Nat → Int} {n : Nat} (hO : zRo bd n) (hC : zMb bd n mm) (ht : ∃ t : List Nat, ∀ r, r < 6 → mm 150 r = nI (t.getD r 0)) (hK : ∀ m2 : zM, zFe mm m2 → (∃ t : List Nat, ∀ r, r < 6 → m2 150 r = nI (t.getD r 0)) → K [.int (zi (zBr bd n).1)] (zG m2))  : wm (d + 2) mX9_bear [.ref 128, .int (-1)] (zG mm) K := by
  refine wm_of2 (L0 := [some (.ref 128), some (.int (-1)), none, none, none, none, none]) zCm_X9_bear (Or.inl rfl) (Nat.le_of_ble_eq_true rfl) rfl ?_
  refine wx_iload_n (i := 1) dX9_bear_0 rfl rfl ?_
  refine wx_iconst (v := (-1)) dX9_bear_1 (by decide) ?_
  refine wx_iconst (v := 5) dX9_bear_2 (by decide) ?_
  refine wx_S3 dX9_bear_3 zPS_X9_in zLk_X9_116 (Nat.le_of_ble_eq_true rfl) (Or.inr rfl) ?_
  refine s_X9_in _ _ _ ?_
  refine wx_r1 ?_
  refine wx_neb (tgt := 11) dX9_bear_6 (by decide) (fun h6 => ?_) (fun h6 => ?_)
  · skip
    exact lp_bear hO hC ht (lp_bear174_all hK)
  · exact absurd (show (-1 : Int32) ≤ -1 ∧ (-1 : Int32) ≤ 5 by decide) h6 --end
theorem lp_bear174_one {d : Nat} {K : List Value → zS → Prop} {mm : zM} {bd : Nat → Nat → Int} {n : Nat} {r : Nat} (hr : r < 6) (hK : ∀ m2 : zM, zFe mm m2 → (∃ t : List Nat, ∀ r, r < 6 → m2 150 r = nI (t.getD r 0)) → K [.int (nI ((zBr bd n).2.getD r 0))] (zG m2)) (m2 : zM) (z2 z3 z4 z5 z6 : Option Value) (hf : zFe mm m2) (hs : zMs2 (zBr bd n) m2) : wx (d + 2) mX9_bear 174 [some (.ref 128), some (.int (nI r)), z2, z3, z4, z5, z6] [] (zG m2) K := by
  refine wx_iload_n (i := 1) dX9_bear_174 rfl rfl ?_
  refine wx_if_ge (tgt := 185) dX9_bear_175 (by decide) (fun h175 => ?_) (fun h175 => ?_)
  · skip
    refine wx_aload_n (i := 0) dX9_bear_185 rfl rfl ?_
    refine wx_getRG (k := 128) (t := 150) dX9_bear_186 zF_X9_93 zKo_128 rfl (Nat.le_of_ble_eq_true rfl) zRf_128_32 ?_
    refine wx_iload_n (i := 1) dX9_bear_189 rfl rfl ?_
    refine wx_ialdG (k := 150) dX9_bear_190 zK_150 (Nat.le_of_ble_eq_true rfl) rfl ?_ ?_
    · exact ⟨by omega, by decide⟩
    refine wx_iret dX9_bear_191 rfl rfl (Or.inl rfl) ?_
    exact zki (hK m2 hf ⟨_, hs.2⟩) (hs.2 r hr).symm
  · rw [zl_0, zi_nI, zi_le (by omega) (by omega)] at h175
    exact absurd (by omega) h175 --end
theorem s_X9_bear_one {d : Nat} {K : List Value → zS → Prop} {mm : zM} {bd : Nat → Nat → Int} {n : Nat} (hO : zRo bd n) (hC : zMb bd n mm) (ht : ∃ t : List Nat, ∀ r, r < 6 → mm 150 r = nI (t.getD r 0)) {r : Nat} (hr : r < 6) (hK : ∀ m2 : zM, zFe mm m2 → (∃ t : List Nat, ∀ r, r < 6 → m2 150 r = nI (t.getD r 0)) → K [.int (nI ((zBr bd n).2.getD r 0))] (zG m2))  : wm (d + 2) mX9_bear [.ref 128, .int (nI r)] (zG mm) K := by
  refine wm_of2 (L0 := [some (.ref 128), some (.int (nI r)), none, none, none, none, none]) zCm_X9_bear (Or.inl rfl) (Nat.le_of_ble_eq_true rfl) rfl ?_
  refine wx_iload_n (i := 1) dX9_bear_0 rfl rfl ?_
  refine wx_iconst (v := (-1)) dX9_bear_1 (by decide) ?_
  refine wx_iconst (v := 5) dX9_bear_2 (by decide) ?_
  refine wx_S3 dX9_bear_3 zPS_X9_in zLk_X9_116 (Nat.le_of_ble_eq_true rfl) (Or.inr rfl) ?_
  refine s_X9_in _ _ _ ?_
  refine wx_r1 ?_
  refine wx_neb (tgt := 11) dX9_bear_6 (by decide) (fun h6 => ?_) (fun h6 => ?_)
  · skip
    exact lp_bear hO hC ht (lp_bear174_one hr hK)
  · exact absurd (show (-1 : Int32) ≤ nI r ∧ nI r ≤ 5 by rw [zm_1, zl_5, zi_nI, zi_le (by omega) (by omega), zi_le (by omega) (by omega)]; omega) h6 --end
theorem lp_rbegin {d : Nat} {K : List Value → zS → Prop} {mm : zM} {v : Int32} (hK : ∀ m1 : zM, (∀ c j, ¬ (100 ≤ c ∧ c ≤ 106) → ¬ (c = 98 ∧ (j = 4 ∨ j = 6)) → m1 c j = mm c j) → m1 98 4 = v → m1 98 6 = 0 → (∀ r z, r < 7 → z < 16 → m1 (99 + 1 + r) z = 0) → K [] (zG m1))  : ∀ (c i : Nat) (m1 : zM) (y : Option Value), i + c = 7 → (∀ c j, ¬ (100 ≤ c ∧ c ≤ 106) → ¬ (c = 98 ∧ (j = 4 ∨ j = 6)) → m1 c j = mm c j) → (m1 98 4 = v) → (∀ t k, t < i → k < 16 → m1 (99 + 1 + t) k = 0) → wx (d + 1) mX5_begin 16 [some (.ref 98), some (.int v), some (.ref 99), some (.int 7), some (.int (nI i)), y] [] (zG m1) K := by
  intro c
  induction c with
  | zero =>
    intro i m1 y hi hf hv hg
    obtain rfl : i = 7 := by omega
    refine wx_iload dX5_begin_16 rfl ?_
    refine wx_iload_n (i := 3) dX5_begin_18 rfl rfl ?_
    refine wx_icmp_ge (tgt := 40) dX5_begin_19 (by decide) (fun h19 => ?_) (fun h19 => ?_)
    · skip
      refine wx_aload_n (i := 0) dX5_begin_40 rfl rfl ?_
      refine wx_iconst (v := 0) dX5_begin_41 (by decide) ?_
      refine wx_putIG (k := 98) dX5_begin_42 zF_X5_30 zKo_98 rfl (Nat.le_of_ble_eq_true rfl) rfl rfl ?_
      refine wx_vret dX5_begin_45 rfl (Or.inl rfl) ?_
      refine hK _ (fun c j u1 u2 => ?_) ?_ (zU_same _ _ _ _) (fun t k u1 u2 => ?_)
      · rw [zU_off (fun w => u2 ⟨w.1, Or.inr w.2⟩)]; exact hf c j u1 u2
      · rw [zU_off (by decide)]; exact hv
      · rw [zU_ne (by omega)]; exact hg t k u1 u2
    · exact absurd (show nI 7 ≤ nI 7 from nI_le (by omega) (by omega)) h19 --end
  | succ c ih =>
    intro i m1 y hi hf hv hg
    refine wx_iload dX5_begin_16 rfl ?_
    refine wx_iload_n (i := 3) dX5_begin_18 rfl rfl ?_
    refine wx_icmp_ge (tgt := 40) dX5_begin_19 (by decide) (fun h19 => ?_) (fun h19 => ?_)
    · exact absurd (show nI 7 ≤ nI i from h19) (nI_ge (by omega) (by omega)) --end
    · skip
      refine wx_aload_n (i := 2) dX5_begin_22 rfl rfl ?_
      refine wx_iload dX5_begin_23 rfl ?_
      refine wx_aaldG (k := 99) (j := i) dX5_begin_25 zK_99 (Nat.le_of_ble_eq_true rfl) rfl ?_ ?_
      · exact ⟨by omega, by decide⟩
      refine wx_astore dX5_begin_26 (Nat.le_of_ble_eq_true rfl) rfl ?_
      refine wx_aload dX5_begin_28 rfl ?_
      refine wx_iconst (v := 0) dX5_begin_30 (by decide) ?_
      refine wx_S2 dX5_begin_31 zPS_J7_fill_53178 zLk_X5_34 (Nat.le_of_ble_eq_true rfl) (Or.inr rfl) ?_
      refine s_J7_fillG (n := 16) (zKin_99 _ (by omega)) (by omega) (by decide) ?_
      refine wx_r0 ?_
      refine wx_inc (c := 1) dX5_begin_34 rfl (by decide) (Nat.le_of_ble_eq_true rfl) rfl ?_
      refine wx_goto (tgt := 16) dX5_begin_37 (by decide) ?_
      rw [nI_1]
      refine ih (i + 1) _ _ (by omega) (fun c j u1 u2 => ?_) ?_ (fun t k u1 u2 => ?_)
      · show va_up m1 (99 + 1 + i) _ c j = _
        rw [show va_up m1 (99 + 1 + i) (fun k => if k < 16 then 0 else m1 (99 + 1 + i) k) c = m1 c from if_neg (by omega)]
        exact hf c j u1 u2
      · show va_up m1 (99 + 1 + i) _ 98 4 = _
        rw [show va_up m1 (99 + 1 + i) (fun k => if k < 16 then 0 else m1 (99 + 1 + i) k) 98 = m1 98 from if_neg (by omega)]
        exact hv
      · show va_up m1 (99 + 1 + i) _ (99 + 1 + t) k = _
        by_cases e : t = i
        · subst e
          rw [show va_up m1 (99 + 1 + t) (fun k => if k < 16 then 0 else m1 (99 + 1 + t) k) (99 + 1 + t) = (fun k => if k < 16 then 0 else m1 (99 + 1 + t) k) from if_pos rfl]
          exact if_pos u2
        · rw [show va_up m1 (99 + 1 + i) (fun k => if k < 16 then 0 else m1 (99 + 1 + i) k) (99 + 1 + t) = m1 (99 + 1 + t) from if_neg (by omega)]
          exact hg t k (by omega) u2
theorem s_X5_begin {d : Nat} {K : List Value → zS → Prop} {mm : zM} {v : Int32} (hK : ∀ m1 : zM, (∀ c j, ¬ (100 ≤ c ∧ c ≤ 106) → ¬ (c = 98 ∧ (j = 4 ∨ j = 6)) → m1 c j = mm c j) → m1 98 4 = v → m1 98 6 = 0 → (∀ r z, r < 7 → z < 16 → m1 (99 + 1 + r) z = 0) → K [] (zG m1))  : wm (d + 1) mX5_begin [.ref 98, .int v] (zG mm) K := by
  refine wm_of2 (L0 := [some (.ref 98), some (.int v), none, none, none, none]) zCm_X5_begin (Or.inl rfl) (Nat.le_of_ble_eq_true rfl) rfl ?_
  refine wx_aload_n (i := 0) dX5_begin_0 rfl rfl ?_
  refine wx_iload_n (i := 1) dX5_begin_1 rfl rfl ?_
  refine wx_putIG (k := 98) dX5_begin_2 zF_X5_26 zKo_98 rfl (Nat.le_of_ble_eq_true rfl) rfl rfl ?_
  refine wx_aload_n (i := 0) dX5_begin_5 rfl rfl ?_
  refine wx_getRG (k := 98) (t := 99) dX5_begin_6 zF_X5_11 zKo_98 rfl (Nat.le_of_ble_eq_true rfl) zRf_98_0 ?_
  refine wx_astore_n (i := 2) dX5_begin_9 rfl (Nat.le_of_ble_eq_true rfl) rfl ?_
  refine wx_aload_n (i := 2) dX5_begin_10 rfl rfl ?_
  refine wx_alenA (k := 99) dX5_begin_11 zK_99 (Nat.le_of_ble_eq_true rfl) ?_
  refine wx_istore_n (i := 3) dX5_begin_12 rfl (Nat.le_of_ble_eq_true rfl) rfl ?_
  refine wx_iconst (v := 0) dX5_begin_13 (by decide) ?_
  refine wx_istore dX5_begin_14 (Nat.le_of_ble_eq_true rfl) rfl ?_
  exact lp_rbegin hK 7 0 _ _ (by omega) (fun c j u1 u2 => zU_off (fun w => u2 ⟨w.1, Or.inl w.2⟩)) (zU_same _ _ _ _) (fun t k u1 _ => absurd u1 (Nat.not_lt_zero t))
