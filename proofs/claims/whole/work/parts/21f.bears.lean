/-! the rings of the class, as they are called -/
theorem zCls_n0 {left b : Nat} (h : ¬ left = 0) : zCls 0 left b = [] := by
  show (if left = 0 then [[]] else []) = _
  rw [if_neg h]
theorem zCls_n3 {k left b : Nat} (h : ¬ left = 0) (hb : 3 ≤ b) : zCls (k + 1) left b = [] := by
  show (if left = 0 then [[]] else if 3 ≤ b then [] else _) = _
  rw [if_neg h, if_pos hb]
theorem zCls_s {k left b : Nat} (h : ¬ left = 0) (hb : b < 3) : zCls (k + 1) left b = (zDt left (if k = 0 ∨ b + 1 = 3 then 1 else left) ++ [0]).flatMap (fun s => (zCls k (left - s) (if s = 0 then b else b + 1)).map (fun t => s :: t)) := by
  show (if left = 0 then [[]] else if 3 ≤ b then [] else _) = _
  rw [if_neg h, if_neg (by omega)]
theorem lp_placeS {k : Nat} (hpl : zPl k) : zPl (k + 1) := by
  intro d K mm bd n st pre left b ring h6 hl hb h12 hO hC hsh hrow hst hK
  by_cases h0 : left = 0
  · subst h0
    obtain ⟨e, he⟩ := zDd_ge d (k + 1)
    rw [he]
    exact lp_place0 (d := 0) (left := 0) (D := e + 1) (by omega) hb (by omega) hl hO hC hsh hrow hst hK
  by_cases hb3 : b = 3
  · obtain ⟨e, he⟩ := zDd_ge d (k + 1)
    rw [he]
    refine lp_placeN (d := 0) (bd := bd) (n := n) (st := st) (pre := pre) (D := e + 1) (by omega) hb h0 (by omega) (Or.inr hb3) (hK mm (zFp_refl _ _ _) ?_)
    rw [zCls_n3 h0 (by omega), zFol_nil]
    exact hst
  have hb2 : b < 3 := by omega
  show wm (zDd d k + 2) mX5_place _ _ _
  refine wm_of2 (L0 := [some (.ref 98), some (.int (nI ring)), some (.int (nI left)), some (.int (nI b)), none, none]) zCm_X5_place (Or.inl rfl) (Nat.le_of_ble_eq_true rfl) rfl ?_
  refine wx_iload_n (i := 2) dX5_place_0 rfl rfl ?_
  refine wx_if_ne (tgt := 11) dX5_place_1 (by decide) (fun h1 => ?_) (fun h1 => ?_)
  · skip
    refine wx_iload_n (i := 1) dX5_place_11 rfl rfl ?_
    refine wx_bipush (v := 6) dX5_place_12 (by decide) ?_
    refine wx_icmp_ge (tgt := 22) dX5_place_14 (by decide) (fun h14 => ?_) (fun h14 => ?_)
    · exact absurd (show nI 6 ≤ nI ring from h14) (nI_ge (by omega) (by omega)) --end
    · skip
      refine wx_iload_n (i := 3) dX5_place_17 rfl rfl ?_
      refine wx_iconst (v := 3) dX5_place_18 (by decide) ?_
      refine wx_icmp_lt (tgt := 23) dX5_place_19 (by decide) (fun h19 => ?_) (fun h19 => ?_)
      · skip
        refine wx_iload_n (i := 1) dX5_place_23 rfl rfl ?_
        refine wx_iconst (v := 1) dX5_place_24 (by decide) ?_
        refine wx_iadd dX5_place_25 ?_
        refine wx_bipush (v := 6) dX5_place_26 (by decide) ?_
        refine wx_icmp_eq (tgt := 38) dX5_place_28 (by decide) (fun h28 => ?_) (fun h28 => ?_)
        · rw [nI_1, show (6 : Int32) = zi 6 from rfl, zi_nI, zi_eq (by omega) (by omega)] at h28
          have hP : (k = 0 ∨ b + 1 = 3) := Or.inl (by omega)
          refine wx_iconst (v := 1) dX5_place_38 (by decide) ?_
          refine wx_goto (tgt := 43) dX5_place_39 (by decide) ?_
          refine wx_istore dX5_place_43 (Nat.le_of_ble_eq_true rfl) rfl ?_
          refine wx_iload_n (i := 2) dX5_place_45 rfl rfl ?_
          refine wx_istore dX5_place_46 (Nat.le_of_ble_eq_true rfl) rfl ?_
          first | (have e := lp_shares (d := d) (K := K) (mm := mm) (k := k) hpl h6 hb2 h0 h12 hl hO hC hsh hrow (lo := left) (R := zFol bd n st pre (zCls (k + 1) left b)) (if_pos hP).symm hK (left - left + 1) 0 mm st (by omega) (zFp_refl _ _ _) hst (by rw [zCls_s h0 hb2, if_pos hP, show left - 0 = left by omega, show left - left + 1 = 1 by omega]); rw [if_pos hP, show left - 0 = left by omega] at e; exact e) | (have e := lp_shares (d := d) (K := K) (mm := mm) (k := k) hpl h6 hb2 h0 h12 hl hO hC hsh hrow (lo := 1) (R := zFol bd n st pre (zCls (k + 1) left b)) (if_neg hP).symm hK (left - 1 + 1) 0 mm st (by omega) (zFp_refl _ _ _) hst (by rw [zCls_s h0 hb2, if_neg hP, show left - 0 = left by omega, show left - 1 + 1 = left by omega]); rw [if_neg hP, show left - 0 = left by omega] at e; exact e)
        · rw [nI_1, show (6 : Int32) = zi 6 from rfl, zi_nI, zi_eq (by omega) (by omega)] at h28
          
          refine wx_iload_n (i := 3) dX5_place_31 rfl rfl ?_
          refine wx_iconst (v := 1) dX5_place_32 (by decide) ?_
          refine wx_iadd dX5_place_33 ?_
          refine wx_iconst (v := 3) dX5_place_34 (by decide) ?_
          refine wx_icmp_ne (tgt := 42) dX5_place_35 (by decide) (fun h35 => ?_) (fun h35 => ?_)
          · rw [nI_1, zl_3, zi_nI, zi_eq (by omega) (by omega)] at h35
            have hP : ¬ (k = 0 ∨ b + 1 = 3) := by omega
            refine wx_iconst (v := 0) dX5_place_42 (by decide) ?_
            refine wx_istore dX5_place_43 (Nat.le_of_ble_eq_true rfl) rfl ?_
            refine wx_iload_n (i := 2) dX5_place_45 rfl rfl ?_
            refine wx_istore dX5_place_46 (Nat.le_of_ble_eq_true rfl) rfl ?_
            first | (have e := lp_shares (d := d) (K := K) (mm := mm) (k := k) hpl h6 hb2 h0 h12 hl hO hC hsh hrow (lo := left) (R := zFol bd n st pre (zCls (k + 1) left b)) (if_pos hP).symm hK (left - left + 1) 0 mm st (by omega) (zFp_refl _ _ _) hst (by rw [zCls_s h0 hb2, if_pos hP, show left - 0 = left by omega, show left - left + 1 = 1 by omega]); rw [if_pos hP, show left - 0 = left by omega] at e; exact e) | (have e := lp_shares (d := d) (K := K) (mm := mm) (k := k) hpl h6 hb2 h0 h12 hl hO hC hsh hrow (lo := 1) (R := zFol bd n st pre (zCls (k + 1) left b)) (if_neg hP).symm hK (left - 1 + 1) 0 mm st (by omega) (zFp_refl _ _ _) hst (by rw [zCls_s h0 hb2, if_neg hP, show left - 0 = left by omega, show left - 1 + 1 = left by omega]); rw [if_neg hP, show left - 0 = left by omega] at e; exact e)
          · rw [nI_1, zl_3, zi_nI, zi_eq (by omega) (by omega)] at h35
            have hP : (k = 0 ∨ b + 1 = 3) := Or.inr (by omega)
            refine wx_iconst (v := 1) dX5_place_38 (by decide) ?_
            refine wx_goto (tgt := 43) dX5_place_39 (by decide) ?_
            refine wx_istore dX5_place_43 (Nat.le_of_ble_eq_true rfl) rfl ?_
            refine wx_iload_n (i := 2) dX5_place_45 rfl rfl ?_
            refine wx_istore dX5_place_46 (Nat.le_of_ble_eq_true rfl) rfl ?_
            first | (have e := lp_shares (d := d) (K := K) (mm := mm) (k := k) hpl h6 hb2 h0 h12 hl hO hC hsh hrow (lo := left) (R := zFol bd n st pre (zCls (k + 1) left b)) (if_pos hP).symm hK (left - left + 1) 0 mm st (by omega) (zFp_refl _ _ _) hst (by rw [zCls_s h0 hb2, if_pos hP, show left - 0 = left by omega, show left - left + 1 = 1 by omega]); rw [if_pos hP, show left - 0 = left by omega] at e; exact e) | (have e := lp_shares (d := d) (K := K) (mm := mm) (k := k) hpl h6 hb2 h0 h12 hl hO hC hsh hrow (lo := 1) (R := zFol bd n st pre (zCls (k + 1) left b)) (if_neg hP).symm hK (left - 1 + 1) 0 mm st (by omega) (zFp_refl _ _ _) hst (by rw [zCls_s h0 hb2, if_neg hP, show left - 0 = left by omega, show left - 1 + 1 = left by omega]); rw [if_neg hP, show left - 0 = left by omega] at e; exact e)
      · exact absurd (show nI b < nI 3 from nI_lt (by omega) (by omega)) h19 --end
  · rw [zl_0, zi_nI, zi_eq (by omega) (by omega)] at h1
    exact absurd (by omega) h0 --end
theorem lp_placeZ : zPl 0 := by
  intro d K mm bd n st pre left b ring h6 hl hb h12 hO hC hsh hrow hst hK
  show wm (d + 4) mX5_place _ _ _
  by_cases h0 : left = 0
  · subst h0
    exact lp_place0 (d := 0) (left := 0) (D := d + 1) (by omega) hb (by omega) hl hO hC hsh hrow hst hK
  · refine lp_placeN (d := 0) (bd := bd) (n := n) (st := st) (pre := pre) (D := d + 1) (by omega) hb h0 (by omega) (Or.inl (by omega)) (hK mm (zFp_refl _ _ _) ?_)
    rw [zCls_n0 h0, zFol_nil]
    exact hst
theorem s_X5_place : ∀ k, zPl k
  | 0 => lp_placeZ
  | k + 1 => lp_placeS (s_X5_place k)
/-- all shares that the class goes through -/
def zLs : List (List Nat) := (zCls 6 12 0).map zPad
set_option maxRecDepth 100000 in
theorem zLs_hd : zLs = [12, 0, 0, 0, 0, 0] :: zLs.tail := by decide +kernel
set_option maxRecDepth 100000 in
theorem zLs_12 : ∀ t ∈ zLs, zSu t 6 = 12 := by decide +kernel
/-- the best shares and their spread -/
noncomputable def zBr (bd : Nat → Nat → Int) (n : Nat) : Int × List Nat := zLs.tail.foldl (zStp (zSpt bd n)) (zSpt bd n [12, 0, 0, 0, 0, 0], [12, 0, 0, 0, 0, 0])
theorem zBr_of {bd : Nat → Nat → Int} {n : Nat} (hO : zRo bd n) {a : Int} (ha : 24000 < a) (t : List Nat) : zLs.foldl (zStp (zSpt bd n)) (a, t) = zBr bd n := by
  have h := (zSpt_b (n := n) hO (t := [12, 0, 0, 0, 0, 0]) (by decide)).2
  rw [zLs_hd, List.foldl_cons]
  unfold zBr
  congr 1
  unfold zStp
  rw [if_pos (by show _ < a; omega)]
theorem zFol_ls (bd : Nat → Nat → Int) (n : Nat) (st : Int × List Nat) : zFol bd n st [] (zCls 6 12 0) = zLs.foldl (zStp (zSpt bd n)) st := rfl
/-- the rings of the class are in order -/
def zRI (bd : Nat → Nat → Int) (n : Nat) (mm : zM) : Prop := zRo bd n ∧ zRc bd n mm ∧ (∃ t : List Nat, ∀ r, r < 6 → mm 113 r = nI (t.getD r 0)) ∧ (mm 98 6 = 0 ∨ zRs (zBr bd n) mm)
def zFr (mm m2 : zM) : Prop := ∀ c j, ¬ (108 ≤ c ∧ c ≤ 113) → ¬ (c = 98 ∧ 5 ≤ j) → m2 c j = mm c j
theorem zFr_refl (mm : zM) : zFr mm mm := fun _ _ _ _ => rfl
theorem lp_rsettle {d : Nat} {K : List Value → zS → Prop} {mm : zM} {bd : Nat → Nat → Int} {n : Nat} (hI : zRI bd n mm) (hK : ∀ m2 : zM, zFr mm m2 → zRI bd n m2 → zRs (zBr bd n) m2 → K [] (zG m2))  : ∀ (c i : Nat) (m1 : zM), i + c = n → (∀ c, c ≠ 108 → m1 c = mm c) → (∀ z, z < i → m1 108 z = zi (zRw bd [] 0 z)) → wx (zDd d 6 + 1) mX5_settle 10 [some (.ref 98), some (.int (nI i))] [] (zG m1) K := by
  intro c
  induction c with
  | zero =>
    intro i m1 hi hf hr
    obtain rfl : i = n := by omega
    refine wx_iload_n (i := 1) dX5_settle_10 rfl rfl ?_
    refine wx_aload_n (i := 0) dX5_settle_11 rfl rfl ?_
    refine wx_getIG (k := 98) dX5_settle_12 zF_X5_26 zKo_98 rfl (Nat.le_of_ble_eq_true rfl) ?_
    refine wx_icmp_ge (tgt := 44) dX5_settle_15 (by decide) (fun h15 => ?_) (fun h15 => ?_)
    · skip
      refine wx_aload_n (i := 0) dX5_settle_44 rfl rfl ?_
      refine wx_sipush (v := 24001) dX5_settle_45 (by decide) ?_
      refine wx_putIG (k := 98) dX5_settle_48 zF_X5_43 zKo_98 rfl (Nat.le_of_ble_eq_true rfl) rfl rfl ?_
      refine wx_aload_n (i := 0) dX5_settle_51 rfl rfl ?_
      refine wx_iconst (v := 0) dX5_settle_52 (by decide) ?_
      refine wx_bipush (v := 12) dX5_settle_53 (by decide) ?_
      refine wx_iconst (v := 0) dX5_settle_55 (by decide) ?_
      refine wx_V3 dX5_settle_56 zPV_X5_place zLk_X5_46 rfl (Nat.le_of_ble_eq_true rfl) (Nat.le_of_ble_eq_true rfl) (Or.inr rfl) ?_
      obtain ⟨t0, ht0⟩ := hI.2.2.1
      rw [show (0 : Int32) = nI 0 from rfl, show (12 : Int32) = nI 12 from rfl]
      refine s_X5_place 6 (d := d) (mm := zU m1 98 5 24001) (st := (24001, t0)) (pre := []) (left := 12) (b := 0) (ring := 0) rfl rfl (by decide) rfl hI.1 ⟨fun r z u v => by rw [zU_ne (by omega), hf _ (by omega)]; exact hI.2.1.1 r z u v, by rw [zU_off (by decide), hf 98 (by decide)]; exact hI.2.1.2⟩ (fun r hr => absurd hr (Nat.not_lt_zero r)) (fun z hz => by rw [zU_ne (by omega)]; exact hr z hz) ⟨⟨zU_same _ _ _ _, by show (-100000 : Int) ≤ 24001; decide, by show (24001 : Int) ≤ 100000; decide⟩, fun r hr => by rw [zU_ne (by decide), hf 113 (by decide)]; exact ht0 r hr⟩ (fun m2 hf2 hs2 => ?_)
      rw [zFol_ls, zBr_of hI.1 (by decide)] at hs2
      refine wx_r0 ?_
      refine wx_aload_n (i := 0) dX5_settle_59 rfl rfl ?_
      refine wx_iconst (v := 1) dX5_settle_60 (by decide) ?_
      refine wx_putIG (k := 98) dX5_settle_61 zF_X5_30 zKo_98 rfl (Nat.le_of_ble_eq_true rfl) rfl rfl ?_
      refine wx_vret dX5_settle_64 rfl (Or.inl rfl) ?_
      have hfr : zFr mm (zU m2 98 6 1) := fun c j u v => by
        rw [zU_off (fun w => v ⟨w.1, by omega⟩), hf2.1 c j (by omega) (fun w => v ⟨w.1, by omega⟩), zU_off (fun w => v ⟨w.1, by omega⟩), hf c (by omega)]
      have hs3 := zRs_of (y := zU m2 98 6 1) hs2 (zU_off (by decide)) (zU_ne (by decide))
      exact hK _ hfr ⟨hI.1, ⟨fun r z u v => by rw [hfr _ z (by omega) (by omega)]; exact hI.2.1.1 r z u v, by rw [hfr 98 4 (by omega) (by omega)]; exact hI.2.1.2⟩, ⟨_, hs3.2⟩, Or.inr hs3⟩ hs3
    · exact absurd (show m1 98 4 ≤ nI i by rw [hf 98 (by decide), hI.2.1.2]; exact nI_le (Nat.le_refl _) (by have := hI.1.2; omega)) h15 --end
  | succ c ih =>
    intro i m1 hi hf hr
    refine wx_iload_n (i := 1) dX5_settle_10 rfl rfl ?_
    refine wx_aload_n (i := 0) dX5_settle_11 rfl rfl ?_
    refine wx_getIG (k := 98) dX5_settle_12 zF_X5_26 zKo_98 rfl (Nat.le_of_ble_eq_true rfl) ?_
    refine wx_icmp_ge (tgt := 44) dX5_settle_15 (by decide) (fun h15 => ?_) (fun h15 => ?_)
    · exact absurd (show m1 98 4 ≤ nI i from h15) (by rw [hf 98 (by decide), hI.2.1.2]; exact nI_ge (by omega) (by have := hI.1.2; omega)) --end
    · skip
      refine wx_aload_n (i := 0) dX5_settle_18 rfl rfl ?_
      refine wx_getRG (k := 98) (t := 107) dX5_settle_19 zF_X5_16 zKo_98 rfl (Nat.le_of_ble_eq_true rfl) zRf_98_1 ?_
      refine wx_iconst (v := 0) dX5_settle_22 (by decide) ?_
      refine wx_aaldG (k := 107) (j := 0) dX5_settle_23 zK_107 (Nat.le_of_ble_eq_true rfl) rfl ?_ ?_
      · exact ⟨by omega, by decide⟩
      refine wx_iload_n (i := 1) dX5_settle_24 rfl rfl ?_
      refine wx_bipush (v := 12) dX5_settle_25 (by decide) ?_
      refine wx_aload_n (i := 0) dX5_settle_27 rfl rfl ?_
      refine wx_getRG (k := 98) (t := 99) dX5_settle_28 zF_X5_11 zKo_98 rfl (Nat.le_of_ble_eq_true rfl) zRf_98_0 ?_
      refine wx_bipush (v := 6) dX5_settle_31 (by decide) ?_
      refine wx_aaldG (k := 99) (j := 6) dX5_settle_33 zK_99 (Nat.le_of_ble_eq_true rfl) rfl ?_ ?_
      · exact ⟨by omega, by decide⟩
      refine wx_iload_n (i := 1) dX5_settle_34 rfl rfl ?_
      refine wx_ialdG dX5_settle_35 (zKin_99 _ (by omega)) (zKlt_99 _ (by omega)) rfl ?_ ?_
      · exact ⟨by have := hI.1.2; omega, by decide⟩
      refine wx_imul dX5_settle_36 ?_
      refine wx_iastG dX5_settle_37 (zKin_107 _ (by omega)) (zKlt_107 _ (by omega)) rfl ?_ ?_
      · exact ⟨by have := hI.1.2; omega, by decide⟩
      refine wx_inc (c := 1) dX5_settle_38 rfl (by decide) (Nat.le_of_ble_eq_true rfl) rfl ?_
      refine wx_goto (tgt := 10) dX5_settle_41 (by decide) ?_
      rw [nI_1]
      refine ih (i + 1) _ (by omega) (fun c u => (zU_ne u).trans (hf c u)) (zU_lt (k := 108) (f := fun z => zi (zRw bd [] 0 z)) hr ?_)
      rw [hf _ (by omega), hI.2.1.1 6 i (by decide) (by have := hI.1.2; omega), show (12 : Int32) = zi 12 from rfl, zi_mul]
      rfl
theorem s_X5_settle {d : Nat} {K : List Value → zS → Prop} {mm : zM} {bd : Nat → Nat → Int} {n : Nat} (hI : zRI bd n mm) (hK : ∀ m2 : zM, zFr mm m2 → zRI bd n m2 → zRs (zBr bd n) m2 → K [] (zG m2))  : wm (zDd d 6 + 1) mX5_settle [.ref 98] (zG mm) K := by
  refine wm_of2 (L0 := [some (.ref 98), none]) zCm_X5_settle (Or.inl rfl) (Nat.le_of_ble_eq_true rfl) rfl ?_
  refine wx_aload_n (i := 0) dX5_settle_0 rfl rfl ?_
  refine wx_getIG (k := 98) dX5_settle_1 zF_X5_30 zKo_98 rfl (Nat.le_of_ble_eq_true rfl) ?_
  refine wx_if_eq (tgt := 8) dX5_settle_4 (by decide) (fun h4 => ?_) (fun h4 => ?_)
  · skip
    refine wx_iconst (v := 0) dX5_settle_8 (by decide) ?_
    refine wx_istore_n (i := 1) dX5_settle_9 rfl (Nat.le_of_ble_eq_true rfl) rfl ?_
    exact lp_rsettle hI hK n 0 mm (by omega) (fun _ _ => rfl) (fun z hz => absurd hz (Nat.not_lt_zero z))
  · skip
    refine wx_vret dX5_settle_7 rfl (Or.inl rfl) ?_
    exact hK mm (zFr_refl mm) hI (hI.2.2.2.resolve_left h4)
theorem s_X5_leastSpread {d : Nat} {K : List Value → zS → Prop} {mm : zM} {bd : Nat → Nat → Int} {n : Nat} (hI : zRI bd n mm) (hK : ∀ m2 : zM, zFr mm m2 → zRI bd n m2 → K [.int (zi (zBr bd n).1)] (zG m2))  : wm (zDd d 6 + 2) mX5_leastSpread [.ref 98] (zG mm) K := by
  refine wm_of2 (L0 := [some (.ref 98)]) zCm_X5_leastSpread (Or.inl rfl) (Nat.le_of_ble_eq_true rfl) rfl ?_
  refine wx_aload_n (i := 0) dX5_leastSpread_0 rfl rfl ?_
  refine wx_V0 dX5_leastSpread_1 zPV_X5_settle zLk_X5_40 rfl (Nat.le_of_ble_eq_true rfl) (Nat.le_of_ble_eq_true rfl) (Or.inr rfl) ?_
  refine s_X5_settle hI (fun m2 hf hI2 hs => ?_)
  refine wx_r0 ?_
  refine wx_aload_n (i := 0) dX5_leastSpread_4 rfl rfl ?_
  refine wx_getIG (k := 98) dX5_leastSpread_5 zF_X5_43 zKo_98 rfl (Nat.le_of_ble_eq_true rfl) ?_
  refine wx_iret dX5_leastSpread_8 rfl rfl (Or.inl rfl) ?_
  exact zki (hK m2 hf hI2) hs.1.1.symm
theorem s_X5_shareOf {d : Nat} {K : List Value → zS → Prop} {mm : zM} {bd : Nat → Nat → Int} {n : Nat} (hI : zRI bd n mm) {r : Nat} (hr : r < 6) (hK : ∀ m2 : zM, zFr mm m2 → zRI bd n m2 → K [.int (nI ((zBr bd n).2.getD r 0))] (zG m2))  : wm (zDd d 6 + 2) mX5_shareOf [.ref 98, .int (nI r)] (zG mm) K := by
  refine wm_of2 (L0 := [some (.ref 98), some (.int (nI r))]) zCm_X5_shareOf (Or.inl rfl) (Nat.le_of_ble_eq_true rfl) rfl ?_
  refine wx_aload_n (i := 0) dX5_shareOf_0 rfl rfl ?_
  refine wx_V0 dX5_shareOf_1 zPV_X5_settle zLk_X5_40 rfl (Nat.le_of_ble_eq_true rfl) (Nat.le_of_ble_eq_true rfl) (Or.inr rfl) ?_
  refine s_X5_settle hI (fun m2 hf hI2 hs => ?_)
  refine wx_r0 ?_
  refine wx_aload_n (i := 0) dX5_shareOf_4 rfl rfl ?_
  refine wx_getRG (k := 98) (t := 113) dX5_shareOf_5 zF_X5_23 zKo_98 rfl (Nat.le_of_ble_eq_true rfl) zRf_98_3 ?_
  refine wx_iload_n (i := 1) dX5_shareOf_8 rfl rfl ?_
  refine wx_ialdG (k := 113) dX5_shareOf_9 zK_113 (Nat.le_of_ble_eq_true rfl) rfl ?_ ?_
  · exact ⟨by omega, by decide⟩
  refine wx_iret dX5_shareOf_10 rfl rfl (Or.inl rfl) ?_
  exact zki (hK m2 hf hI2) (hs.2 r hr).symm
theorem s_X5_tellBend {d : Nat} {K : List Value → zS → Prop} {mm : zM} {r z : Nat} {v : Int32} (hr : r < 7) (hz : z < 16) (hK : K [.int (mm (99 + 1 + r) z)] (zG (zU (zU mm (99 + 1 + r) z v) 98 6 0))) : wm (d) mX5_tellBend [.ref 98, .int (nI r), .int (nI z), .int v] (zG mm) K := by
  refine wm_of2 (L0 := [some (.ref 98), some (.int (nI r)), some (.int (nI z)), some (.int v), none]) zCm_X5_tellBend (Or.inl rfl) (Nat.le_of_ble_eq_true rfl) rfl ?_
  refine wx_aload_n (i := 0) dX5_tellBend_0 rfl rfl ?_
  refine wx_getRG (k := 98) (t := 99) dX5_tellBend_1 zF_X5_11 zKo_98 rfl (Nat.le_of_ble_eq_true rfl) zRf_98_0 ?_
  refine wx_iload_n (i := 1) dX5_tellBend_4 rfl rfl ?_
  refine wx_aaldG (k := 99) (j := r) dX5_tellBend_5 zK_99 (Nat.le_of_ble_eq_true rfl) rfl ?_ ?_
  · exact ⟨hr, by decide⟩
  refine wx_iload_n (i := 2) dX5_tellBend_6 rfl rfl ?_
  refine wx_ialdG dX5_tellBend_7 (zKin_99 _ (by omega)) (zKlt_99 _ (by omega)) rfl ?_ ?_
  · exact ⟨hz, by decide⟩
  refine wx_istore dX5_tellBend_8 (Nat.le_of_ble_eq_true rfl) rfl ?_
  refine wx_aload_n (i := 0) dX5_tellBend_10 rfl rfl ?_
  refine wx_getRG (k := 98) (t := 99) dX5_tellBend_11 zF_X5_11 zKo_98 rfl (Nat.le_of_ble_eq_true rfl) zRf_98_0 ?_
  refine wx_iload_n (i := 1) dX5_tellBend_14 rfl rfl ?_
  refine wx_aaldG (k := 99) (j := r) dX5_tellBend_15 zK_99 (Nat.le_of_ble_eq_true rfl) rfl ?_ ?_
  · exact ⟨hr, by decide⟩
  refine wx_iload_n (i := 2) dX5_tellBend_16 rfl rfl ?_
  refine wx_iload_n (i := 3) dX5_tellBend_17 rfl rfl ?_
  refine wx_iastG dX5_tellBend_18 (zKin_99 _ (by omega)) (zKlt_99 _ (by omega)) rfl ?_ ?_
  · exact ⟨hz, by decide⟩
  refine wx_aload_n (i := 0) dX5_tellBend_19 rfl rfl ?_
  refine wx_iconst (v := 0) dX5_tellBend_20 (by decide) ?_
  refine wx_putIG (k := 98) dX5_tellBend_21 zF_X5_30 zKo_98 rfl (Nat.le_of_ble_eq_true rfl) rfl rfl ?_
  refine wx_iload dX5_tellBend_24 rfl ?_
  refine wx_iret dX5_tellBend_26 rfl rfl (Or.inl rfl) ?_
  exact hK
