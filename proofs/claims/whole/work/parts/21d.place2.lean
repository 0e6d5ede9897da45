/-! the rings of the class: place -/
theorem zSu_snoc {pre : List Nat} {ring s : Nat} (h : pre.length = ring) : zSu (pre ++ [s]) (ring + 1) = zSu pre ring + s := by
  show zSu (pre ++ [s]) ring + (pre ++ [s]).getD ring 0 = _
  rw [zSu_cong (u := pre) (fun r hr => zGetD_snoc_l (by omega)), zGetD_snoc_e h]
theorem zRw_snoc {bd : Nat → Nat → Int} {pre : List Nat} {ring s : Nat} (h : pre.length = ring) (z : Nat) : zRw bd (pre ++ [s]) (ring + 1) z = zRw bd pre ring z - (s : Int) * bd ring z := by
  show zRw bd (pre ++ [s]) ring z - ((pre ++ [s]).getD ring 0 : Int) * bd ring z = _
  rw [zRw_cong (u := pre) (fun r hr => zGetD_snoc_l (by omega)) z, zGetD_snoc_e h]
theorem zFp_sh {b ring : Nat} {mm : zM} {v : Int32} (hb : b ≤ 3) : zFp b ring mm (zU mm 112 ring v) := ⟨fun c j u _ => zU_off (fun w => u (by omega)), fun r hr => zU_off (fun w => by omega)⟩
theorem zFp_w {b b2 ring r2 : Nat} {x y : zM} (h : zFp b2 r2 x y) (hb : b ≤ b2) (hr : ring ≤ r2) : zFp b ring x y := ⟨fun c j u v => h.1 c j (by omega) v, fun r q => h.2 r (by omega)⟩
theorem zRs_of {st : Int × List Nat} {x y : zM} (h : zRs st x) (h1 : y 98 5 = x 98 5) (h2 : y 113 = x 113) : zRs st y := ⟨⟨h1.trans h.1.1, h.1.2⟩, fun r hr => (congrFun h2 r).trans (h.2 r hr)⟩
/-- what place does, so many rings being left -/
def zPl (k : Nat) : Prop := ∀ {d : Nat} {K : List Value → zS → Prop} {mm : zM} {bd : Nat → Nat → Int} {n : Nat} {st : Int × List Nat} {pre : List Nat} {left b ring : Nat}, ring + k = 6 → pre.length = ring → b ≤ 3 → zSu pre ring + left = 12 → zRo bd n → zRc bd n mm → (∀ r, r < ring → mm 112 r = nI (pre.getD r 0)) → (∀ z, z < n → mm (107 + 1 + b) z = zi (zRw bd pre ring z)) → zRs st mm → (∀ m2 : zM, zFp b ring mm m2 → zRs (zFol bd n st pre (zCls k left b)) m2 → K [] (zG m2)) → wm (zDd d k) mX5_place [.ref 98, .int (nI ring), .int (nI left), .int (nI b)] (zG mm) K
theorem lp_rows {d : Nat} {K : List Value → zS → Prop} {m0 : zM} {bd : Nat → Nat → Int} {n : Nat} {pre : List Nat} {left b ring share : Nat} (hl : pre.length = ring) (h6 : ring < 6) (hb : b < 3) (hO : zRo bd n) (hC : zRc bd n m0) (hrow : ∀ z, z < n → m0 (107 + 1 + b) z = zi (zRw bd pre ring z)) (hK : ∀ m1 : zM, (∀ c, c ≠ 107 + 1 + (b + 1) → m1 c = m0 c) → (∀ z, z < n → m1 (107 + 1 + (b + 1)) z = zi (zRw bd (pre ++ [share]) (ring + 1) z)) → wx d mX5_placeShare 74 [some (.ref 98), some (.int (nI ring)), some (.int (nI share)), some (.int (nI left)), some (.int (nI b)), some (.int (nI n))] [] (zG m1) K) : ∀ (c i : Nat) (m1 : zM), i + c = n → (∀ c, c ≠ 107 + 1 + (b + 1) → m1 c = m0 c) → (∀ z, z < i → m1 (107 + 1 + (b + 1)) z = zi (zRw bd (pre ++ [share]) (ring + 1) z)) → wx (d) mX5_placeShare 25 [some (.ref 98), some (.int (nI ring)), some (.int (nI share)), some (.int (nI left)), some (.int (nI b)), some (.int (nI i))] [] (zG m1) K := by
  intro c
  induction c with
  | zero =>
    intro i m1 hi hf hr
    obtain rfl : i = n := by omega
    refine wx_iload dX5_placeShare_25 rfl ?_
    refine wx_aload_n (i := 0) dX5_placeShare_27 rfl rfl ?_
    refine wx_getIG (k := 98) dX5_placeShare_28 zF_X5_26 zKo_98 rfl (Nat.le_of_ble_eq_true rfl) ?_
    refine wx_icmp_ge (tgt := 74) dX5_placeShare_31 (by decide) (fun h31 => ?_) (fun h31 => ?_)
    · skip
      exact hK m1 hf hr
    · exact absurd (show m1 98 4 ≤ nI i by rw [hf 98 (by omega), hC.2]; exact nI_le (Nat.le_refl _) (by have := hO.2; omega)) h31 --end
  | succ c ih =>
    intro i m1 hi hf hr
    refine wx_iload dX5_placeShare_25 rfl ?_
    refine wx_aload_n (i := 0) dX5_placeShare_27 rfl rfl ?_
    refine wx_getIG (k := 98) dX5_placeShare_28 zF_X5_26 zKo_98 rfl (Nat.le_of_ble_eq_true rfl) ?_
    refine wx_icmp_ge (tgt := 74) dX5_placeShare_31 (by decide) (fun h31 => ?_) (fun h31 => ?_)
    · exact absurd (show m1 98 4 ≤ nI i from h31) (by rw [hf 98 (by omega), hC.2]; exact nI_ge (by omega) (by have := hO.2; omega)) --end
    · skip
      refine wx_aload_n (i := 0) dX5_placeShare_34 rfl rfl ?_
      refine wx_getRG (k := 98) (t := 107) dX5_placeShare_35 zF_X5_16 zKo_98 rfl (Nat.le_of_ble_eq_true rfl) zRf_98_1 ?_
      refine wx_iload dX5_placeShare_38 rfl ?_
      refine wx_iconst (v := 1) dX5_placeShare_40 (by decide) ?_
      refine wx_iadd dX5_placeShare_41 ?_
      refine wx_aaldG (k := 107) (j := b + 1) dX5_placeShare_42 zK_107 (Nat.le_of_ble_eq_true rfl) ?_ ?_ ?_
      · (rw [nI_1])
      · exact ⟨by omega, by decide⟩
      refine wx_iload dX5_placeShare_43 rfl ?_
      refine wx_aload_n (i := 0) dX5_placeShare_45 rfl rfl ?_
      refine wx_getRG (k := 98) (t := 107) dX5_placeShare_46 zF_X5_16 zKo_98 rfl (Nat.le_of_ble_eq_true rfl) zRf_98_1 ?_
      refine wx_iload dX5_placeShare_49 rfl ?_
      refine wx_aaldG (k := 107) (j := b) dX5_placeShare_51 zK_107 (Nat.le_of_ble_eq_true rfl) rfl ?_ ?_
      · exact ⟨by omega, by decide⟩
      refine wx_iload dX5_placeShare_52 rfl ?_
      refine wx_ialdG dX5_placeShare_54 (zKin_107 _ (by omega)) (zKlt_107 _ (by omega)) rfl ?_ ?_
      · exact ⟨by have := hO.2; omega, by decide⟩
      refine wx_iload_n (i := 2) dX5_placeShare_55 rfl rfl ?_
      refine wx_aload_n (i := 0) dX5_placeShare_56 rfl rfl ?_
      refine wx_getRG (k := 98) (t := 99) dX5_placeShare_57 zF_X5_11 zKo_98 rfl (Nat.le_of_ble_eq_true rfl) zRf_98_0 ?_
      refine wx_iload_n (i := 1) dX5_placeShare_60 rfl rfl ?_
      refine wx_aaldG (k := 99) (j := ring) dX5_placeShare_61 zK_99 (Nat.le_of_ble_eq_true rfl) rfl ?_ ?_
      · exact ⟨by omega, by decide⟩
      refine wx_iload dX5_placeShare_62 rfl ?_
      refine wx_ialdG dX5_placeShare_64 (zKin_99 _ (by omega)) (zKlt_99 _ (by omega)) rfl ?_ ?_
      · exact ⟨by have := hO.2; omega, by decide⟩
      refine wx_imul dX5_placeShare_65 ?_
      refine wx_isub dX5_placeShare_66 ?_
      refine wx_iastG dX5_placeShare_67 (zKin_107 _ (by omega)) (zKlt_107 _ (by omega)) rfl ?_ ?_
      · exact ⟨by have := hO.2; omega, by decide⟩
      refine wx_inc (c := 1) dX5_placeShare_68 rfl (by decide) (Nat.le_of_ble_eq_true rfl) rfl ?_
      refine wx_goto (tgt := 25) dX5_placeShare_71 (by decide) ?_
      rw [nI_1]
      refine ih (i + 1) _ (by omega) (fun c u => (zU_ne u).trans (hf c u)) (zU_lt (f := fun z => zi (zRw bd (pre ++ [share]) (ring + 1) z)) hr ?_)
      rw [hf _ (by omega), hf _ (by omega), hrow i (by omega), hC.1 ring i (by omega) (by have := hO.2; omega), zi_nI, zi_mul, zi_sub, zRw_snoc hl]
theorem lp_ps74 {d : Nat} {K : List Value → zS → Prop} {mm : zM} {k share : Nat} (hpl : zPl k) {bd : Nat → Nat → Int} {n : Nat} {st : Int × List Nat} {pre : List Nat} {left b ring : Nat} (h6 : ring + (k + 1) = 6) (hb : b < 3) (hle : share ≤ left) (h8 : ¬ share = 0) (h12 : zSu pre ring + left = 12) (hl : pre.length = ring) (hO : zRo bd n) (hC : zRc bd n mm) (hsh : ∀ r, r < ring → mm 112 r = nI (pre.getD r 0)) (hst : zRs st mm) (hK : ∀ m2 : zM, zFp b ring mm m2 → zRs (zFol bd n st pre ((fun s => (zCls k (left - s) (if s = 0 then b else b + 1)).map (fun t => s :: t)) share)) m2 → K [] (zG m2)) (m1 : zM) (hf : ∀ c, c ≠ 107 + 1 + (b + 1) → m1 c = (zU mm 112 ring (nI share)) c) (hr : ∀ z, z < n → m1 (107 + 1 + (b + 1)) z = zi (zRw bd (pre ++ [share]) (ring + 1) z)) : wx (zDd d k + 1) mX5_placeShare 74 [some (.ref 98), some (.int (nI ring)), some (.int (nI share)), some (.int (nI left)), some (.int (nI b)), some (.int (nI n))] [] (zG m1) K := by
  have hfp : zFp b ring mm m1 := ⟨fun c j u v => by rw [hf c (by omega), zU_ne (by omega)], fun r hr => by rw [hf 112 (by omega), zU_off (by omega)]⟩
  refine wx_aload_n (i := 0) dX5_placeShare_74 rfl rfl ?_
  refine wx_iload_n (i := 1) dX5_placeShare_75 rfl rfl ?_
  refine wx_iconst (v := 1) dX5_placeShare_76 (by decide) ?_
  refine wx_iadd dX5_placeShare_77 ?_
  refine wx_iload_n (i := 3) dX5_placeShare_78 rfl rfl ?_
  refine wx_iload_n (i := 2) dX5_placeShare_79 rfl rfl ?_
  refine wx_isub dX5_placeShare_80 ?_
  refine wx_iload dX5_placeShare_81 rfl ?_
  refine wx_iconst (v := 1) dX5_placeShare_83 (by decide) ?_
  refine wx_iadd dX5_placeShare_84 ?_
  refine wx_V3 dX5_placeShare_85 zPV_X5_place zLk_X5_46 rfl (Nat.le_of_ble_eq_true rfl) (Nat.le_of_ble_eq_true rfl) (Or.inr rfl) ?_
  rw [nI_1, nI_1, nI_sub hle]
  refine hpl (pre := pre ++ [share]) (by omega) (by rw [List.length_append, hl]; rfl) (by omega) (by rw [zSu_snoc hl]; omega) hO (zRc_fp hC hfp (by omega)) (fun r hr => by
      by_cases e : r = ring
      · subst e
        rw [hf 112 (by omega), zU_same, zGetD_snoc_e hl]
      · rw [hf 112 (by omega), zU_off (fun w => e w.2), zGetD_snoc_l (by omega)]
        exact hsh r (by omega)) hr (zRs_of hst (by rw [hf 98 (by omega), zU_ne (by decide)]) (by rw [hf 113 (by omega), zU_ne (by decide)])) (fun m2 hf2 hs2 => ?_)
  rw [← zFol_cons, show b + 1 = if share = 0 then b else b + 1 from (if_neg h8).symm] at hs2
  refine wx_r0 ?_
  refine wx_vret dX5_placeShare_88 rfl (Or.inl rfl) ?_
  exact hK m2 (zFp_trans hfp (zFp_w hf2 (by omega) (by omega))) hs2
theorem s_X5_placeShare {d : Nat} {K : List Value → zS → Prop} {mm : zM} {k share : Nat} (hpl : zPl k) {bd : Nat → Nat → Int} {n : Nat} {st : Int × List Nat} {pre : List Nat} {left b ring : Nat} (h6 : ring + (k + 1) = 6) (hb : b < 3) (hle : share ≤ left) (h12 : zSu pre ring + left = 12) (hl : pre.length = ring) (hO : zRo bd n) (hC : zRc bd n mm) (hsh : ∀ r, r < ring → mm 112 r = nI (pre.getD r 0)) (hrow : ∀ z, z < n → mm (107 + 1 + b) z = zi (zRw bd pre ring z)) (hst : zRs st mm) (hK : ∀ m2 : zM, zFp b ring mm m2 → zRs (zFol bd n st pre ((fun s => (zCls k (left - s) (if s = 0 then b else b + 1)).map (fun t => s :: t)) share)) m2 → K [] (zG m2))  : wm (zDd d k + 1) mX5_placeShare [.ref 98, .int (nI ring), .int (nI share), .int (nI left), .int (nI b)] (zG mm) K := by
  have hC0 : zRc bd n (zU mm 112 ring (nI share)) := zRc_fp hC (zFp_sh (b := b) (by omega)) (by omega)
  have hst0 : zRs st (zU mm 112 ring (nI share)) := zRs_of hst (by rw [zU_ne (by decide)]) (zU_ne (by decide))
  have hrow0 : ∀ z, z < n → (zU mm 112 ring (nI share)) (107 + 1 + b) z = zi (zRw bd pre ring z) := fun z hz => by rw [zU_ne (by omega)]; exact hrow z hz
  refine wm_of2 (L0 := [some (.ref 98), some (.int (nI ring)), some (.int (nI share)), some (.int (nI left)), some (.int (nI b)), none]) zCm_X5_placeShare (Or.inl rfl) (Nat.le_of_ble_eq_true rfl) rfl ?_
  refine wx_aload_n (i := 0) dX5_placeShare_0 rfl rfl ?_
  refine wx_getRG (k := 98) (t := 112) dX5_placeShare_1 zF_X5_19 zKo_98 rfl (Nat.le_of_ble_eq_true rfl) zRf_98_2 ?_
  refine wx_iload_n (i := 1) dX5_placeShare_4 rfl rfl ?_
  refine wx_iload_n (i := 2) dX5_placeShare_5 rfl rfl ?_
  refine wx_iastG (k := 112) dX5_placeShare_6 zK_112 (Nat.le_of_ble_eq_true rfl) rfl ?_ ?_
  · exact ⟨by omega, by decide⟩
  refine wx_iload_n (i := 2) dX5_placeShare_7 rfl rfl ?_
  refine wx_if_ne (tgt := 22) dX5_placeShare_8 (by decide) (fun h8 => ?_) (fun h8 => ?_)
  · have h8 : ¬ share = 0 := fun u => h8 (by rw [u]; rfl)
    refine wx_iconst (v := 0) dX5_placeShare_22 (by decide) ?_
    refine wx_istore dX5_placeShare_23 (Nat.le_of_ble_eq_true rfl) rfl ?_
    exact lp_rows (m0 := zU mm 112 ring (nI share)) (share := share) hl (by omega) hb hO hC0 hrow0 (lp_ps74 hpl h6 hb hle h8 h12 hl hO hC hsh hst hK) n 0 _ (by omega) (fun _ _ => rfl) (fun z hz => absurd hz (Nat.not_lt_zero z))
  · have h8 : share = 0 := by rw [zl_0, zi_nI, zi_eq (by omega) (by omega)] at h8; omega
    subst h8
    refine wx_aload_n (i := 0) dX5_placeShare_11 rfl rfl ?_
    refine wx_iload_n (i := 1) dX5_placeShare_12 rfl rfl ?_
    refine wx_iconst (v := 1) dX5_placeShare_13 (by decide) ?_
    refine wx_iadd dX5_placeShare_14 ?_
    refine wx_iload_n (i := 3) dX5_placeShare_15 rfl rfl ?_
    refine wx_iload dX5_placeShare_16 rfl ?_
    refine wx_V3 dX5_placeShare_18 zPV_X5_place zLk_X5_46 rfl (Nat.le_of_ble_eq_true rfl) (Nat.le_of_ble_eq_true rfl) (Or.inr rfl) ?_
    rw [nI_1]
    refine hpl (pre := pre ++ [0]) (by omega) (by rw [List.length_append, hl]; rfl) (by omega) (by rw [zSu_snoc hl]; omega) hO hC0 (fun r hr => by
        by_cases e : r = ring
        · subst e
          rw [zU_same, zGetD_snoc_e hl]
        · rw [zU_off (fun w => e w.2), zGetD_snoc_l (by omega)]
          exact hsh r (by omega)) (fun z hz => by rw [hrow0 z hz, zRw_snoc hl]; exact congrArg zi (by simp)) hst0 (fun m2 hf2 hs2 => ?_)
    rw [← zFol_cons, show left = left - 0 by omega, show b = if (0 : Nat) = 0 then b else b + 1 from (if_pos rfl).symm] at hs2
    refine wx_r0 ?_
    refine wx_vret dX5_placeShare_21 rfl (Or.inl rfl) ?_
    exact hK m2 (zFp_trans (zFp_sh (by omega)) (zFp_w hf2 (Nat.le_refl _) (by omega))) hs2
