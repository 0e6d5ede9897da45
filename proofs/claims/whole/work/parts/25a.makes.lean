/-! what the constructors make, further -/
theorem s_X0_init {d : Nat} {K : List Value → zS → Prop} {mm : zM} {rf : zR} (hN : zNo0 17 88 rf mm) (hK : ∀ (rf2 : zR) (mm2 : zM), zCr 17 88 rf rf2 → (∀ k, ¬ (17 ≤ k ∧ k < 88) → mm2 k = mm k) → mm2 17 7 = 8 → mm2 17 8 = 0 → mm2 17 9 = 10 → mm2 17 10 = 0 → (∀ k, 18 ≤ k → k < 88 → mm2 k = fun _ => 0) → K [] (88, rf2, mm2))  : wm (d + 5) mX0_init [.ref 17] (18, rf, mm) K := by
  obtain ⟨hr, hm⟩ := id hN
  refine wm_of2 (L0 := [some (.ref 17)]) zCm_X0_init (Or.inr rfl) (Nat.le_of_ble_eq_true rfl) rfl ?_
  refine wx_aload_n (i := 0) dX0_init_0 rfl rfl ?_
  refine wx_objInit dX0_init_1 zLk_X0_3 zOb_i zOb_c (Nat.le_of_ble_eq_true rfl) ?_
  refine wx_aload_n (i := 0) dX0_init_4 rfl rfl ?_
  refine wx_bipush (v := 16) dX0_init_5 (by decide) ?_
  refine wx_newIT (N := 16) (n0 := 18) (n1 := 19) dX0_init_7 zAi zK_18 (by (try dsimp only); (repeat rw [zU_ne (by omega)]); exact hm _ (by omega) (by omega)) ⟨by decide, by decide, by decide, by decide⟩ (by decide) (by decide) (Nat.le_of_ble_eq_true rfl) rfl ?_
  refine wx_putRT (k := 17) dX0_init_9 zF_X0_9 zKo_17 rfl (Nat.le_of_ble_eq_true rfl) rfl rfl (fun _ => rfl) (fun _ => rfl) ?_
  refine wx_aload_n (i := 0) dX0_init_12 rfl rfl ?_
  refine wx_bipush (v := 16) dX0_init_13 (by decide) ?_
  refine wx_newIT (N := 16) (n0 := 19) (n1 := 20) dX0_init_15 zAi zK_19 (by (try dsimp only); (repeat rw [zU_ne (by omega)]); exact hm _ (by omega) (by omega)) ⟨by decide, by decide, by decide, by decide⟩ (by decide) (by decide) (Nat.le_of_ble_eq_true rfl) rfl ?_
  refine wx_putRT (k := 17) dX0_init_17 zF_X0_15 zKo_17 rfl (Nat.le_of_ble_eq_true rfl) rfl rfl (fun _ => rfl) (fun _ => rfl) ?_
  refine wx_aload_n (i := 0) dX0_init_20 rfl rfl ?_
  refine wx_iconst (v := 3) dX0_init_21 (by decide) ?_
  refine wx_iconst (v := 5) dX0_init_22 (by decide) ?_
  refine wx_new2T (N := 3) (K1 := 5) (n0 := 20) (n1 := 24) dX0_init_23 zNa_X0_18 zAi zK_20 (zKin_20) (by (try dsimp only); (repeat first | rw [zUr_ne (by omega)] | rw [zRv_ne (by omega)]); exact hr _ (by omega) (by omega)) (fun i hi => by (try dsimp only); (repeat rw [zU_ne (by omega)]); exact hm _ (by omega) (by omega)) ⟨by decide, by decide, by decide, by decide⟩ (by decide) (by decide) (by decide) (by decide) (Nat.le_of_ble_eq_true rfl) (Nat.le_of_ble_eq_true rfl) rfl ?_
  refine wx_putRT (k := 17) dX0_init_27 zF_X0_20 zKo_17 rfl (Nat.le_of_ble_eq_true rfl) rfl rfl (fun _ => rfl) (fun _ => rfl) ?_
  refine wx_aload_n (i := 0) dX0_init_30 rfl rfl ?_
  refine wx_bipush (v := 60) dX0_init_31 (by decide) ?_
  refine wx_newIT (N := 60) (n0 := 24) (n1 := 25) dX0_init_33 zAi zK_24 (by (try dsimp only); (repeat rw [zU_ne (by omega)]); exact hm _ (by omega) (by omega)) ⟨by decide, by decide, by decide, by decide⟩ (by decide) (by decide) (Nat.le_of_ble_eq_true rfl) rfl ?_
  refine wx_putRT (k := 17) dX0_init_35 zF_X0_23 zKo_17 rfl (Nat.le_of_ble_eq_true rfl) rfl rfl (fun _ => rfl) (fun _ => rfl) ?_
  refine wx_aload_n (i := 0) dX0_init_38 rfl rfl ?_
  refine wx_bipush (v := 60) dX0_init_39 (by decide) ?_
  refine wx_newIT (N := 60) (n0 := 25) (n1 := 26) dX0_init_41 zAi zK_25 (by (try dsimp only); (repeat rw [zU_ne (by omega)]); exact hm _ (by omega) (by omega)) ⟨by decide, by decide, by decide, by decide⟩ (by decide) (by decide) (Nat.le_of_ble_eq_true rfl) rfl ?_
  refine wx_putRT (k := 17) dX0_init_43 zF_X0_26 zKo_17 rfl (Nat.le_of_ble_eq_true rfl) rfl rfl (fun _ => rfl) (fun _ => rfl) ?_
  refine wx_aload_n (i := 0) dX0_init_46 rfl rfl ?_
  refine wx_bipush (v := 60) dX0_init_47 (by decide) ?_
  refine wx_newIT (N := 60) (n0 := 26) (n1 := 27) dX0_init_49 zAi zK_26 (by (try dsimp only); (repeat rw [zU_ne (by omega)]); exact hm _ (by omega) (by omega)) ⟨by decide, by decide, by decide, by decide⟩ (by decide) (by decide) (Nat.le_of_ble_eq_true rfl) rfl ?_
  refine wx_putRT (k := 17) dX0_init_51 zF_X0_29 zKo_17 rfl (Nat.le_of_ble_eq_true rfl) rfl rfl (fun _ => rfl) (fun _ => rfl) ?_
  refine wx_aload_n (i := 0) dX0_init_54 rfl rfl ?_
  refine wx_bipush (v := 60) dX0_init_55 (by decide) ?_
  refine wx_iconst (v := 5) dX0_init_57 (by decide) ?_
  refine wx_new2T (N := 60) (K1 := 5) (n0 := 27) (n1 := 88) dX0_init_58 zNa_X0_18 zAi zK_27 (zKin_27) (by (try dsimp only); (repeat first | rw [zUr_ne (by omega)] | rw [zRv_ne (by omega)]); exact hr _ (by omega) (by omega)) (fun i hi => by (try dsimp only); (repeat rw [zU_ne (by omega)]); exact hm _ (by omega) (by omega)) ⟨by decide, by decide, by decide, by decide⟩ (by decide) (by decide) (by decide) (by decide) (Nat.le_of_ble_eq_true rfl) (Nat.le_of_ble_eq_true rfl) rfl ?_
  refine wx_putRT (k := 17) dX0_init_62 zF_X0_32 zKo_17 rfl (Nat.le_of_ble_eq_true rfl) rfl rfl (fun _ => rfl) (fun _ => rfl) ?_
  refine wx_aload_n (i := 0) dX0_init_65 rfl rfl ?_
  refine wx_bipush (v := 8) dX0_init_66 (by decide) ?_
  refine wx_putIT (k := 17) dX0_init_68 zF_X0_35 zKo_17 rfl (Nat.le_of_ble_eq_true rfl) rfl rfl ?_
  refine wx_aload_n (i := 0) dX0_init_71 rfl rfl ?_
  refine wx_iconst (v := 0) dX0_init_72 (by decide) ?_
  refine wx_putIT (k := 17) dX0_init_73 zF_X0_39 zKo_17 rfl (Nat.le_of_ble_eq_true rfl) rfl rfl ?_
  refine wx_aload_n (i := 0) dX0_init_76 rfl rfl ?_
  refine wx_bipush (v := 10) dX0_init_77 (by decide) ?_
  refine wx_putIT (k := 17) dX0_init_79 zF_X0_42 zKo_17 rfl (Nat.le_of_ble_eq_true rfl) rfl rfl ?_
  refine wx_aload_n (i := 0) dX0_init_82 rfl rfl ?_
  refine wx_iconst (v := 0) dX0_init_83 (by decide) ?_
  refine wx_putIT (k := 17) dX0_init_84 zF_X0_45 zKo_17 rfl (Nat.le_of_ble_eq_true rfl) rfl rfl ?_
  refine wx_vret dX0_init_87 rfl (Or.inr rfl) ?_
  refine hK _ _ ⟨fun k w => ?_, fun k w1 w2 => ?_⟩ (fun k w => ?_) ?_ ?_ ?_ ?_ ?_
  · (repeat first | rw [zUr_ne (by omega)] | rw [zRv_ne (by omega)])
  · by_cases e : k = 17
    · subst e
      rw [zRF_ob (l := [some 18, some 19, some 20, some 24, some 25, some 26, some 27, none, none, none, none]) (by decide) (by rw [zKo_17]; decide) (by decide +kernel)]
      funext i
      (repeat first | rw [zUr_at] | rw [zUr_ne (by omega)] | rw [zRv_ne (by omega)])
      rw [hr 17 (by omega) (by omega)]
      unfold va_up
      rcases (by omega : i = 0 ∨ i = 1 ∨ i = 2 ∨ i = 3 ∨ i = 4 ∨ i = 5 ∨ i = 6 ∨ i = 7 ∨ i = 8 ∨ i = 9 ∨ i = 10 ∨ 11 ≤ i) with rfl | rfl | rfl | rfl | rfl | rfl | rfl | rfl | rfl | rfl | rfl | hi
      · rfl
      · rfl
      · rfl
      · rfl
      · rfl
      · rfl
      · rfl
      · rfl
      · rfl
      · rfl
      · rfl
      · (repeat rw [if_neg (by omega)])
        rw [List.getD_eq_getElem?_getD, List.getElem?_eq_none hi]; rfl
    by_cases e20 : k = 20
    · subst e20
      rw [zRF_two (by decide) zK_20]
      (repeat first | rw [zUr_ne (by omega)] | rw [zRv_at] | rw [zRv_ne (by omega)])
    by_cases e27 : k = 27
    · subst e27
      rw [zRF_two (by decide) zK_27]
      (repeat first | rw [zUr_ne (by omega)] | rw [zRv_at] | rw [zRv_ne (by omega)])
    rw [zRF_arr (by omega) (zK_arr k (by omega) (by omega))]
    (repeat first | rw [zUr_ne (by omega)] | rw [zRv_ne (by omega)])
    exact hr k w1 w2
  · (repeat first | rw [zU_ne (by omega)] | rw [zFl_off (by omega)])
  · rw [zU_off (by omega), zU_off (by omega), zU_off (by omega), zU_same]
  · rw [zU_off (by omega), zU_off (by omega), zU_same]
  · rw [zU_off (by omega), zU_same]
  · rw [zU_same]
  · intro k w1 w2
    (repeat first | rw [zU_ne (by omega)] | rw [zFl_off (by omega)])
    exact hm k (by omega) (by omega)
theorem s_X5_init {d : Nat} {K : List Value → zS → Prop} {mm : zM} {rf : zR} (hN : zNo0 98 114 rf mm) (hK : ∀ (rf2 : zR) (mm2 : zM), zCr 98 114 rf rf2 → (∀ k, ¬ (98 ≤ k ∧ k < 114) → mm2 k = mm k) → mm2 98 4 = 8 → mm2 98 6 = 0 → (∀ k, 99 ≤ k → k < 114 → mm2 k = fun _ => 0) → K [] (114, rf2, mm2))  : wm (d + 5) mX5_init [.ref 98] (99, rf, mm) K := by
  obtain ⟨hr, hm⟩ := id hN
  refine wm_of2 (L0 := [some (.ref 98)]) zCm_X5_init (Or.inr rfl) (Nat.le_of_ble_eq_true rfl) rfl ?_
  refine wx_aload_n (i := 0) dX5_init_0 rfl rfl ?_
  refine wx_objInit dX5_init_1 zLk_X5_3 zOb_i zOb_c (Nat.le_of_ble_eq_true rfl) ?_
  refine wx_aload_n (i := 0) dX5_init_4 rfl rfl ?_
  refine wx_bipush (v := 7) dX5_init_5 (by decide) ?_
  refine wx_bipush (v := 16) dX5_init_7 (by decide) ?_
  refine wx_new2T (N := 7) (K1 := 16) (n0 := 99) (n1 := 107) dX5_init_9 zNa_X5_9 zAi zK_99 (zKin_99) (by (try dsimp only); (repeat first | rw [zUr_ne (by omega)] | rw [zRv_ne (by omega)]); exact hr _ (by omega) (by omega)) (fun i hi => by (try dsimp only); (repeat rw [zU_ne (by omega)]); exact hm _ (by omega) (by omega)) ⟨by decide, by decide, by decide, by decide⟩ (by decide) (by decide) (by decide) (by decide) (Nat.le_of_ble_eq_true rfl) (Nat.le_of_ble_eq_true rfl) rfl ?_
  refine wx_putRT (k := 98) dX5_init_13 zF_X5_11 zKo_98 rfl (Nat.le_of_ble_eq_true rfl) rfl rfl (fun _ => rfl) (fun _ => rfl) ?_
  refine wx_aload_n (i := 0) dX5_init_16 rfl rfl ?_
  refine wx_iconst (v := 4) dX5_init_17 (by decide) ?_
  refine wx_bipush (v := 16) dX5_init_18 (by decide) ?_
  refine wx_new2T (N := 4) (K1 := 16) (n0 := 107) (n1 := 112) dX5_init_20 zNa_X5_9 zAi zK_107 (zKin_107) (by (try dsimp only); (repeat first | rw [zUr_ne (by omega)] | rw [zRv_ne (by omega)]); exact hr _ (by omega) (by omega)) (fun i hi => by (try dsimp only); (repeat rw [zU_ne (by omega)]); exact hm _ (by omega) (by omega)) ⟨by decide, by decide, by decide, by decide⟩ (by decide) (by decide) (by decide) (by decide) (Nat.le_of_ble_eq_true rfl) (Nat.le_of_ble_eq_true rfl) rfl ?_
  refine wx_putRT (k := 98) dX5_init_24 zF_X5_16 zKo_98 rfl (Nat.le_of_ble_eq_true rfl) rfl rfl (fun _ => rfl) (fun _ => rfl) ?_
  refine wx_aload_n (i := 0) dX5_init_27 rfl rfl ?_
  refine wx_bipush (v := 6) dX5_init_28 (by decide) ?_
  refine wx_newIT (N := 6) (n0 := 112) (n1 := 113) dX5_init_30 zAi zK_112 (by (try dsimp only); (repeat rw [zU_ne (by omega)]); exact hm _ (by omega) (by omega)) ⟨by decide, by decide, by decide, by decide⟩ (by decide) (by decide) (Nat.le_of_ble_eq_true rfl) rfl ?_
  refine wx_putRT (k := 98) dX5_init_32 zF_X5_19 zKo_98 rfl (Nat.le_of_ble_eq_true rfl) rfl rfl (fun _ => rfl) (fun _ => rfl) ?_
  refine wx_aload_n (i := 0) dX5_init_35 rfl rfl ?_
  refine wx_bipush (v := 6) dX5_init_36 (by decide) ?_
  refine wx_newIT (N := 6) (n0 := 113) (n1 := 114) dX5_init_38 zAi zK_113 (by (try dsimp only); (repeat rw [zU_ne (by omega)]); exact hm _ (by omega) (by omega)) ⟨by decide, by decide, by decide, by decide⟩ (by decide) (by decide) (Nat.le_of_ble_eq_true rfl) rfl ?_
  refine wx_putRT (k := 98) dX5_init_40 zF_X5_23 zKo_98 rfl (Nat.le_of_ble_eq_true rfl) rfl rfl (fun _ => rfl) (fun _ => rfl) ?_
  refine wx_aload_n (i := 0) dX5_init_43 rfl rfl ?_
  refine wx_bipush (v := 8) dX5_init_44 (by decide) ?_
  refine wx_putIT (k := 98) dX5_init_46 zF_X5_26 zKo_98 rfl (Nat.le_of_ble_eq_true rfl) rfl rfl ?_
  refine wx_aload_n (i := 0) dX5_init_49 rfl rfl ?_
  refine wx_iconst (v := 0) dX5_init_50 (by decide) ?_
  refine wx_putIT (k := 98) dX5_init_51 zF_X5_30 zKo_98 rfl (Nat.le_of_ble_eq_true rfl) rfl rfl ?_
  refine wx_vret dX5_init_54 rfl (Or.inr rfl) ?_
  refine hK _ _ ⟨fun k w => ?_, fun k w1 w2 => ?_⟩ (fun k w => ?_) ?_ ?_ ?_
  · (repeat first | rw [zUr_ne (by omega)] | rw [zRv_ne (by omega)])
  · by_cases e : k = 98
    · subst e
      rw [zRF_ob (l := [some 99, some 107, some 112, some 113, none, none, none]) (by decide) (by rw [zKo_98]; decide) (by decide +kernel)]
      funext i
      (repeat first | rw [zUr_at] | rw [zUr_ne (by omega)] | rw [zRv_ne (by omega)])
      rw [hr 98 (by omega) (by omega)]
      unfold va_up
      rcases (by omega : i = 0 ∨ i = 1 ∨ i = 2 ∨ i = 3 ∨ i = 4 ∨ i = 5 ∨ i = 6 ∨ 7 ≤ i) with rfl | rfl | rfl | rfl | rfl | rfl | rfl | hi
      · rfl
      · rfl
      · rfl
      · rfl
      · rfl
      · rfl
      · rfl
      · (repeat rw [if_neg (by omega)])
        rw [List.getD_eq_getElem?_getD, List.getElem?_eq_none hi]; rfl
    by_cases e99 : k = 99
    · subst e99
      rw [zRF_two (by decide) zK_99]
      (repeat first | rw [zUr_ne (by omega)] | rw [zRv_at] | rw [zRv_ne (by omega)])
    by_cases e107 : k = 107
    · subst e107
      rw [zRF_two (by decide) zK_107]
      (repeat first | rw [zUr_ne (by omega)] | rw [zRv_at] | rw [zRv_ne (by omega)])
    rw [zRF_arr (by omega) (zK_arr k (by omega) (by omega))]
    (repeat first | rw [zUr_ne (by omega)] | rw [zRv_ne (by omega)])
    exact hr k w1 w2
  · (repeat first | rw [zU_ne (by omega)] | rw [zFl_off (by omega)])
  · rw [zU_off (by omega), zU_same]
  · rw [zU_same]
  · intro k w1 w2
    (repeat first | rw [zU_ne (by omega)] | rw [zFl_off (by omega)])
    exact hm k (by omega) (by omega)
theorem s_X6_init {d : Nat} {K : List Value → zS → Prop} {mm : zM} {rf : zR} (hN : zNo0 114 117 rf mm) (hK : ∀ (rf2 : zR) (mm2 : zM), zCr 114 117 rf rf2 → (∀ k, ¬ (114 ≤ k ∧ k < 117) → mm2 k = mm k) → mm2 114 2 = 0 → (∀ k, 115 ≤ k → k < 117 → mm2 k = fun _ => 0) → K [] (117, rf2, mm2))  : wm (d + 5) mX6_init [.ref 114] (115, rf, mm) K := by
  obtain ⟨hr, hm⟩ := id hN
  refine wm_of2 (L0 := [some (.ref 114)]) zCm_X6_init (Or.inr rfl) (Nat.le_of_ble_eq_true rfl) rfl ?_
  refine wx_aload_n (i := 0) dX6_init_0 rfl rfl ?_
  refine wx_objInit dX6_init_1 zLk_X6_3 zOb_i zOb_c (Nat.le_of_ble_eq_true rfl) ?_
  refine wx_aload_n (i := 0) dX6_init_4 rfl rfl ?_
  refine wx_bipush (v := 8) dX6_init_5 (by decide) ?_
  refine wx_newIT (N := 8) (n0 := 115) (n1 := 116) dX6_init_7 zAi zK_115 (by (try dsimp only); (repeat rw [zU_ne (by omega)]); exact hm _ (by omega) (by omega)) ⟨by decide, by decide, by decide, by decide⟩ (by decide) (by decide) (Nat.le_of_ble_eq_true rfl) rfl ?_
  refine wx_putRT (k := 114) dX6_init_9 zF_X6_9 zKo_114 rfl (Nat.le_of_ble_eq_true rfl) rfl rfl (fun _ => rfl) (fun _ => rfl) ?_
  refine wx_aload_n (i := 0) dX6_init_12 rfl rfl ?_
  refine wx_bipush (v := 8) dX6_init_13 (by decide) ?_
  refine wx_newIT (N := 8) (n0 := 116) (n1 := 117) dX6_init_15 zAi zK_116 (by (try dsimp only); (repeat rw [zU_ne (by omega)]); exact hm _ (by omega) (by omega)) ⟨by decide, by decide, by decide, by decide⟩ (by decide) (by decide) (Nat.le_of_ble_eq_true rfl) rfl ?_
  refine wx_putRT (k := 114) dX6_init_17 zF_X6_15 zKo_114 rfl (Nat.le_of_ble_eq_true rfl) rfl rfl (fun _ => rfl) (fun _ => rfl) ?_
  refine wx_aload_n (i := 0) dX6_init_20 rfl rfl ?_
  refine wx_iconst (v := 0) dX6_init_21 (by decide) ?_
  refine wx_putIT (k := 114) dX6_init_22 zF_X6_18 zKo_114 rfl (Nat.le_of_ble_eq_true rfl) rfl rfl ?_
  refine wx_vret dX6_init_25 rfl (Or.inr rfl) ?_
  refine hK _ _ ⟨fun k w => ?_, fun k w1 w2 => ?_⟩ (fun k w => ?_) ?_ ?_
  · (repeat first | rw [zUr_ne (by omega)] | rw [zRv_ne (by omega)])
  · by_cases e : k = 114
    · subst e
      rw [zRF_ob (l := [some 115, some 116, none]) (by decide) (by rw [zKo_114]; decide) (by decide +kernel)]
      funext i
      (repeat first | rw [zUr_at] | rw [zUr_ne (by omega)] | rw [zRv_ne (by omega)])
      rw [hr 114 (by omega) (by omega)]
      unfold va_up
      rcases (by omega : i = 0 ∨ i = 1 ∨ i = 2 ∨ 3 ≤ i) with rfl | rfl | rfl | hi
      · rfl
      · rfl
      · rfl
      · (repeat rw [if_neg (by omega)])
        rw [List.getD_eq_getElem?_getD, List.getElem?_eq_none hi]; rfl
    rw [zRF_arr (by omega) (zK_arr k (by omega) (by omega))]
    (repeat first | rw [zUr_ne (by omega)] | rw [zRv_ne (by omega)])
    exact hr k w1 w2
  · (repeat first | rw [zU_ne (by omega)] | rw [zFl_off (by omega)])
  · rw [zU_same]
  · intro k w1 w2
    (repeat first | rw [zU_ne (by omega)] | rw [zFl_off (by omega)])
    exact hm k (by omega) (by omega)
theorem s_X2_init {d : Nat} {K : List Value → zS → Prop} {mm : zM} {rf : zR} (hN : zNo0 117 128 rf mm) (hK : ∀ (rf2 : zR) (mm2 : zM), zCr 117 128 rf rf2 → (∀ k, ¬ (117 ≤ k ∧ k < 128) → mm2 k = mm k) → mm2 117 3 = 0 → mm2 117 4 = 0 → mm2 117 5 = 0 → (∀ k, 118 ≤ k → k < 128 → mm2 k = fun _ => 0) → K [] (128, rf2, mm2))  : wm (d + 5) mX2_init [.ref 117] (118, rf, mm) K := by
  obtain ⟨hr, hm⟩ := id hN
  refine wm_of2 (L0 := [some (.ref 117)]) zCm_X2_init (Or.inr rfl) (Nat.le_of_ble_eq_true rfl) rfl ?_
  refine wx_aload_n (i := 0) dX2_init_0 rfl rfl ?_
  refine wx_objInit dX2_init_1 zLk_X2_3 zOb_i zOb_c (Nat.le_of_ble_eq_true rfl) ?_
  refine wx_aload_n (i := 0) dX2_init_4 rfl rfl ?_
  refine wx_bipush (v := 6) dX2_init_5 (by decide) ?_
  refine wx_newIT (N := 6) (n0 := 118) (n1 := 119) dX2_init_7 zAi zK_118 (by (try dsimp only); (repeat rw [zU_ne (by omega)]); exact hm _ (by omega) (by omega)) ⟨by decide, by decide, by decide, by decide⟩ (by decide) (by decide) (Nat.le_of_ble_eq_true rfl) rfl ?_
  refine wx_putRT (k := 117) dX2_init_9 zF_X2_9 zKo_117 rfl (Nat.le_of_ble_eq_true rfl) rfl rfl (fun _ => rfl) (fun _ => rfl) ?_
  refine wx_aload_n (i := 0) dX2_init_12 rfl rfl ?_
  refine wx_bipush (v := 6) dX2_init_13 (by decide) ?_
  refine wx_newIT (N := 6) (n0 := 119) (n1 := 120) dX2_init_15 zAi zK_119 (by (try dsimp only); (repeat rw [zU_ne (by omega)]); exact hm _ (by omega) (by omega)) ⟨by decide, by decide, by decide, by decide⟩ (by decide) (by decide) (Nat.le_of_ble_eq_true rfl) rfl ?_
  refine wx_putRT (k := 117) dX2_init_17 zF_X2_15 zKo_117 rfl (Nat.le_of_ble_eq_true rfl) rfl rfl (fun _ => rfl) (fun _ => rfl) ?_
  refine wx_aload_n (i := 0) dX2_init_20 rfl rfl ?_
  refine wx_bipush (v := 7) dX2_init_21 (by decide) ?_
  refine wx_sipush (v := 2101) dX2_init_23 (by decide) ?_
  refine wx_new2T (N := 7) (K1 := 2101) (n0 := 120) (n1 := 128) dX2_init_26 zNa_X2_18 zAi zK_120 (zKin_120) (by (try dsimp only); (repeat first | rw [zUr_ne (by omega)] | rw [zRv_ne (by omega)]); exact hr _ (by omega) (by omega)) (fun i hi => by (try dsimp only); (repeat rw [zU_ne (by omega)]); exact hm _ (by omega) (by omega)) ⟨by decide, by decide, by decide, by decide⟩ (by decide) (by decide) (by decide) (by decide) (Nat.le_of_ble_eq_true rfl) (Nat.le_of_ble_eq_true rfl) rfl ?_
  refine wx_putRT (k := 117) dX2_init_30 zF_X2_20 zKo_117 rfl (Nat.le_of_ble_eq_true rfl) rfl rfl (fun _ => rfl) (fun _ => rfl) ?_
  refine wx_aload_n (i := 0) dX2_init_33 rfl rfl ?_
  refine wx_iconst (v := 0) dX2_init_34 (by decide) ?_
  refine wx_putIT (k := 117) dX2_init_35 zF_X2_23 zKo_117 rfl (Nat.le_of_ble_eq_true rfl) rfl rfl ?_
  refine wx_aload_n (i := 0) dX2_init_38 rfl rfl ?_
  refine wx_iconst (v := 0) dX2_init_39 (by decide) ?_
  refine wx_putIT (k := 117) dX2_init_40 zF_X2_27 zKo_117 rfl (Nat.le_of_ble_eq_true rfl) rfl rfl ?_
  refine wx_aload_n (i := 0) dX2_init_43 rfl rfl ?_
  refine wx_iconst (v := 0) dX2_init_44 (by decide) ?_
  refine wx_putIT (k := 117) dX2_init_45 zF_X2_30 zKo_117 rfl (Nat.le_of_ble_eq_true rfl) rfl rfl ?_
  refine wx_vret dX2_init_48 rfl (Or.inr rfl) ?_
  refine hK _ _ ⟨fun k w => ?_, fun k w1 w2 => ?_⟩ (fun k w => ?_) ?_ ?_ ?_ ?_
  · (repeat first | rw [zUr_ne (by omega)] | rw [zRv_ne (by omega)])
  · by_cases e : k = 117
    · subst e
      rw [zRF_ob (l := [some 118, some 119, some 120, none, none, none]) (by decide) (by rw [zKo_117]; decide) (by decide +kernel)]
      funext i
      (repeat first | rw [zUr_at] | rw [zUr_ne (by omega)] | rw [zRv_ne (by omega)])
      rw [hr 117 (by omega) (by omega)]
      unfold va_up
      rcases (by omega : i = 0 ∨ i = 1 ∨ i = 2 ∨ i = 3 ∨ i = 4 ∨ i = 5 ∨ 6 ≤ i) with rfl | rfl | rfl | rfl | rfl | rfl | hi
      · rfl
      · rfl
      · rfl
      · rfl
      · rfl
      · rfl
      · (repeat rw [if_neg (by omega)])
        rw [List.getD_eq_getElem?_getD, List.getElem?_eq_none hi]; rfl
    by_cases e120 : k = 120
    · subst e120
      rw [zRF_two (by decide) zK_120]
      (repeat first | rw [zUr_ne (by omega)] | rw [zRv_at] | rw [zRv_ne (by omega)])
    rw [zRF_arr (by omega) (zK_arr k (by omega) (by omega))]
    (repeat first | rw [zUr_ne (by omega)] | rw [zRv_ne (by omega)])
    exact hr k w1 w2
  · (repeat first | rw [zU_ne (by omega)] | rw [zFl_off (by omega)])
  · rw [zU_off (by omega), zU_off (by omega), zU_same]
  · rw [zU_off (by omega), zU_same]
  · rw [zU_same]
  · intro k w1 w2
    (repeat first | rw [zU_ne (by omega)] | rw [zFl_off (by omega)])
    exact hm k (by omega) (by omega)
theorem s_X4_init {d : Nat} {K : List Value → zS → Prop} {mm : zM} {rf : zR} (hN : zNo0 88 98 rf mm) (hK : ∀ (rf2 : zR) (mm2 : zM), zCr 88 98 rf rf2 → (∀ k, ¬ (88 ≤ k ∧ k < 98) → mm2 k = mm k) → (∀ t, t < 3 → mm2 95 t = -1) → K [] (98, rf2, mm2))  : wm (d + 5) mX4_init [.ref 88, .ref 17] (89, rf, mm) K := by
  obtain ⟨hr, hm⟩ := id hN
  refine wm_of2 (L0 := [some (.ref 88), some (.ref 17)]) zCm_X4_init (Or.inr rfl) (Nat.le_of_ble_eq_true rfl) rfl ?_
  refine wx_aload_n (i := 0) dX4_init_0 rfl rfl ?_
  refine wx_objInit dX4_init_1 zLk_X4_5 zOb_i zOb_c (Nat.le_of_ble_eq_true rfl) ?_
  refine wx_aload_n (i := 0) dX4_init_4 rfl rfl ?_
  refine wx_sipush (v := 23328) dX4_init_5 (by decide) ?_
  refine wx_newIT (N := 23328) (n0 := 89) (n1 := 90) dX4_init_8 zAi zK_89 (by (try dsimp only); (repeat rw [zU_ne (by omega)]); exact hm _ (by omega) (by omega)) ⟨by decide, by decide, by decide, by decide⟩ (by decide) (by decide) (Nat.le_of_ble_eq_true rfl) rfl ?_
  refine wx_putRT (k := 88) dX4_init_10 zF_X4_11 zKo_88 rfl (Nat.le_of_ble_eq_true rfl) rfl rfl (fun _ => rfl) (fun _ => rfl) ?_
  refine wx_aload_n (i := 0) dX4_init_13 rfl rfl ?_
  refine wx_iconst (v := 3) dX4_init_14 (by decide) ?_
  refine wx_bipush (v := 16) dX4_init_15 (by decide) ?_
  refine wx_new2T (N := 3) (K1 := 16) (n0 := 90) (n1 := 94) dX4_init_17 zNa_X4_15 zAi zK_90 (zKin_90) (by (try dsimp only); (repeat first | rw [zUr_ne (by omega)] | rw [zRv_ne (by omega)]); exact hr _ (by omega) (by omega)) (fun i hi => by (try dsimp only); (repeat rw [zU_ne (by omega)]); exact hm _ (by omega) (by omega)) ⟨by decide, by decide, by decide, by decide⟩ (by decide) (by decide) (by decide) (by decide) (Nat.le_of_ble_eq_true rfl) (Nat.le_of_ble_eq_true rfl) rfl ?_
  refine wx_putRT (k := 88) dX4_init_21 zF_X4_17 zKo_88 rfl (Nat.le_of_ble_eq_true rfl) rfl rfl (fun _ => rfl) (fun _ => rfl) ?_
  refine wx_aload_n (i := 0) dX4_init_24 rfl rfl ?_
  refine wx_iconst (v := 3) dX4_init_25 (by decide) ?_
  refine wx_newIT (N := 3) (n0 := 94) (n1 := 95) dX4_init_26 zAi zK_94 (by (try dsimp only); (repeat rw [zU_ne (by omega)]); exact hm _ (by omega) (by omega)) ⟨by decide, by decide, by decide, by decide⟩ (by decide) (by decide) (Nat.le_of_ble_eq_true rfl) rfl ?_
  refine wx_putRT (k := 88) dX4_init_28 zF_X4_20 zKo_88 rfl (Nat.le_of_ble_eq_true rfl) rfl rfl (fun _ => rfl) (fun _ => rfl) ?_
  refine wx_aload_n (i := 0) dX4_init_31 rfl rfl ?_
  refine wx_iconst (v := 3) dX4_init_32 (by decide) ?_
  refine wx_newIT (N := 3) (n0 := 95) (n1 := 96) dX4_init_33 zAi zK_95 (by (try dsimp only); (repeat rw [zU_ne (by omega)]); exact hm _ (by omega) (by omega)) ⟨by decide, by decide, by decide, by decide⟩ (by decide) (by decide) (Nat.le_of_ble_eq_true rfl) rfl ?_
  refine wx_putRT (k := 88) dX4_init_35 zF_X4_23 zKo_88 rfl (Nat.le_of_ble_eq_true rfl) rfl rfl (fun _ => rfl) (fun _ => rfl) ?_
  refine wx_aload_n (i := 0) dX4_init_38 rfl rfl ?_
  refine wx_bipush (v := 16) dX4_init_39 (by decide) ?_
  refine wx_newIT (N := 16) (n0 := 96) (n1 := 97) dX4_init_41 zAi zK_96 (by (try dsimp only); (repeat rw [zU_ne (by omega)]); exact hm _ (by omega) (by omega)) ⟨by decide, by decide, by decide, by decide⟩ (by decide) (by decide) (Nat.le_of_ble_eq_true rfl) rfl ?_
  refine wx_putRT (k := 88) dX4_init_43 zF_X4_26 zKo_88 rfl (Nat.le_of_ble_eq_true rfl) rfl rfl (fun _ => rfl) (fun _ => rfl) ?_
  refine wx_aload_n (i := 0) dX4_init_46 rfl rfl ?_
  refine wx_iconst (v := 5) dX4_init_47 (by decide) ?_
  refine wx_newIT (N := 5) (n0 := 97) (n1 := 98) dX4_init_48 zAi zK_97 (by (try dsimp only); (repeat rw [zU_ne (by omega)]); exact hm _ (by omega) (by omega)) ⟨by decide, by decide, by decide, by decide⟩ (by decide) (by decide) (Nat.le_of_ble_eq_true rfl) rfl ?_
  refine wx_putRT (k := 88) dX4_init_50 zF_X4_29 zKo_88 rfl (Nat.le_of_ble_eq_true rfl) rfl rfl (fun _ => rfl) (fun _ => rfl) ?_
  refine wx_aload_n (i := 0) dX4_init_53 rfl rfl ?_
  refine wx_aload_n (i := 1) dX4_init_54 rfl rfl ?_
  refine wx_putRT (k := 88) dX4_init_55 zF_X4_32 zKo_88 rfl (Nat.le_of_ble_eq_true rfl) rfl rfl (fun _ => rfl) (fun _ => rfl) ?_
  refine wx_aload_n (i := 0) dX4_init_58 rfl rfl ?_
  refine wx_getR (k := 88) (t := 95) dX4_init_59 zF_X4_23 zKo_88 rfl (Nat.le_of_ble_eq_true rfl) rfl ?_
  refine wx_iconst (v := (-1)) dX4_init_62 (by decide) ?_
  refine wx_S2 dX4_init_63 zPS_J7_fill_53178 zLk_X4_36 (Nat.le_of_ble_eq_true rfl) (Or.inl (Nat.le_of_ble_eq_true rfl)) ?_
  refine s_J7_fill (n := 3) zK_95 (by decide) (by decide) ?_
  refine wx_r0 ?_
  refine wx_vret dX4_init_66 rfl (Or.inr rfl) ?_
  refine hK _ _ ⟨fun k w => ?_, fun k w1 w2 => ?_⟩ (fun k w => ?_) ?_
  · (repeat first | rw [zUr_ne (by omega)] | rw [zRv_ne (by omega)])
  · by_cases e : k = 88
    · subst e
      rw [zRF_ob (l := [some 17, some 89, some 90, some 94, some 95, some 96, some 97, none, none]) (by decide) (by rw [zKo_88]; decide) (by decide +kernel)]
      funext i
      (repeat first | rw [zUr_at] | rw [zUr_ne (by omega)] | rw [zRv_ne (by omega)])
      rw [hr 88 (by omega) (by omega)]
      unfold va_up
      rcases (by omega : i = 0 ∨ i = 1 ∨ i = 2 ∨ i = 3 ∨ i = 4 ∨ i = 5 ∨ i = 6 ∨ i = 7 ∨ i = 8 ∨ 9 ≤ i) with rfl | rfl | rfl | rfl | rfl | rfl | rfl | rfl | rfl | hi
      · rfl
      · rfl
      · rfl
      · rfl
      · rfl
      · rfl
      · rfl
      · rfl
      · rfl
      · (repeat rw [if_neg (by omega)])
        rw [List.getD_eq_getElem?_getD, List.getElem?_eq_none hi]; rfl
    by_cases e90 : k = 90
    · subst e90
      rw [zRF_two (by decide) zK_90]
      (repeat first | rw [zUr_ne (by omega)] | rw [zRv_at] | rw [zRv_ne (by omega)])
    rw [zRF_arr (by omega) (zK_arr k (by omega) (by omega))]
    (repeat first | rw [zUr_ne (by omega)] | rw [zRv_ne (by omega)])
    exact hr k w1 w2
  · (repeat first | rw [zU_ne (by omega)] | rw [zFl_off (by omega)])
  · intro t ht
    exact zFl_in ht
theorem s_X3_init {d : Nat} {K : List Value → zS → Prop} {mm : zM} {rf : zR} (hN : zNo0 2 13 rf mm) (hK : ∀ (rf2 : zR) (mm2 : zM), zCr 2 13 rf rf2 → (∀ k, ¬ (2 ≤ k ∧ k < 13) → mm2 k = mm k) → mm2 2 7 = 2 → mm2 2 8 = 8 → mm2 2 11 = 0 → mm2 7 0 = 0 → (∀ t i, t < 3 → i < 15 → mm2 (3 + 1 + t) i = 5000) → K [] (13, rf2, mm2))  : wm (d + 5) mX3_init [.ref 2] (3, rf, mm) K := by
  obtain ⟨hr, hm⟩ := id hN
  refine wm_of2 (L0 := [some (.ref 2)]) zCm_X3_init (Or.inr rfl) (Nat.le_of_ble_eq_true rfl) rfl ?_
  refine wx_aload_n (i := 0) dX3_init_0 rfl rfl ?_
  refine wx_objInit dX3_init_1 zLk_X3_3 zOb_i zOb_c (Nat.le_of_ble_eq_true rfl) ?_
  refine wx_aload_n (i := 0) dX3_init_4 rfl rfl ?_
  refine wx_iconst (v := 3) dX3_init_5 (by decide) ?_
  refine wx_bipush (v := 15) dX3_init_6 (by decide) ?_
  refine wx_new2T (N := 3) (K1 := 15) (n0 := 3) (n1 := 7) dX3_init_8 zNa_X3_9 zAi zK_3 (zKin_3) (by (try dsimp only); (repeat first | rw [zUr_ne (by omega)] | rw [zRv_ne (by omega)]); exact hr _ (by omega) (by omega)) (fun i hi => by (try dsimp only); (repeat rw [zU_ne (by omega)]); exact hm _ (by omega) (by omega)) ⟨by decide, by decide, by decide, by decide⟩ (by decide) (by decide) (by decide) (by decide) (Nat.le_of_ble_eq_true rfl) (Nat.le_of_ble_eq_true rfl) rfl ?_
  refine wx_putRT (k := 2) dX3_init_12 zF_X3_11 zKo_2 rfl (Nat.le_of_ble_eq_true rfl) rfl rfl (fun _ => rfl) (fun _ => rfl) ?_
  refine wx_aload_n (i := 0) dX3_init_15 rfl rfl ?_
  refine wx_iconst (v := 3) dX3_init_16 (by decide) ?_
  refine wx_newIT (N := 3) (n0 := 7) (n1 := 8) dX3_init_17 zAi zK_7 (by (try dsimp only); (repeat rw [zU_ne (by omega)]); exact hm _ (by omega) (by omega)) ⟨by decide, by decide, by decide, by decide⟩ (by decide) (by decide) (Nat.le_of_ble_eq_true rfl) rfl ?_
  refine wx_putRT (k := 2) dX3_init_19 zF_X3_16 zKo_2 rfl (Nat.le_of_ble_eq_true rfl) rfl rfl (fun _ => rfl) (fun _ => rfl) ?_
  refine wx_aload_n (i := 0) dX3_init_22 rfl rfl ?_
  refine wx_bipush (v := 15) dX3_init_23 (by decide) ?_
  refine wx_newIT (N := 15) (n0 := 8) (n1 := 9) dX3_init_25 zAi zK_8 (by (try dsimp only); (repeat rw [zU_ne (by omega)]); exact hm _ (by omega) (by omega)) ⟨by decide, by decide, by decide, by decide⟩ (by decide) (by decide) (Nat.le_of_ble_eq_true rfl) rfl ?_
  refine wx_putRT (k := 2) dX3_init_27 zF_X3_20 zKo_2 rfl (Nat.le_of_ble_eq_true rfl) rfl rfl (fun _ => rfl) (fun _ => rfl) ?_
  refine wx_aload_n (i := 0) dX3_init_30 rfl rfl ?_
  refine wx_bipush (v := 16) dX3_init_31 (by decide) ?_
  refine wx_newIT (N := 16) (n0 := 9) (n1 := 10) dX3_init_33 zAi zK_9 (by (try dsimp only); (repeat rw [zU_ne (by omega)]); exact hm _ (by omega) (by omega)) ⟨by decide, by decide, by decide, by decide⟩ (by decide) (by decide) (Nat.le_of_ble_eq_true rfl) rfl ?_
  refine wx_putRT (k := 2) dX3_init_35 zF_X3_23 zKo_2 rfl (Nat.le_of_ble_eq_true rfl) rfl rfl (fun _ => rfl) (fun _ => rfl) ?_
  refine wx_aload_n (i := 0) dX3_init_38 rfl rfl ?_
  refine wx_bipush (v := 41) dX3_init_39 (by decide) ?_
  refine wx_newIT (N := 41) (n0 := 10) (n1 := 11) dX3_init_41 zAi zK_10 (by (try dsimp only); (repeat rw [zU_ne (by omega)]); exact hm _ (by omega) (by omega)) ⟨by decide, by decide, by decide, by decide⟩ (by decide) (by decide) (Nat.le_of_ble_eq_true rfl) rfl ?_
  refine wx_putRT (k := 2) dX3_init_43 zF_X3_26 zKo_2 rfl (Nat.le_of_ble_eq_true rfl) rfl rfl (fun _ => rfl) (fun _ => rfl) ?_
  refine wx_aload_n (i := 0) dX3_init_46 rfl rfl ?_
  refine wx_bipush (v := 41) dX3_init_47 (by decide) ?_
  refine wx_newIT (N := 41) (n0 := 11) (n1 := 12) dX3_init_49 zAi zK_11 (by (try dsimp only); (repeat rw [zU_ne (by omega)]); exact hm _ (by omega) (by omega)) ⟨by decide, by decide, by decide, by decide⟩ (by decide) (by decide) (Nat.le_of_ble_eq_true rfl) rfl ?_
  refine wx_putRT (k := 2) dX3_init_51 zF_X3_29 zKo_2 rfl (Nat.le_of_ble_eq_true rfl) rfl rfl (fun _ => rfl) (fun _ => rfl) ?_
  refine wx_aload_n (i := 0) dX3_init_54 rfl rfl ?_
  refine wx_bipush (v := 81) dX3_init_55 (by decide) ?_
  refine wx_newIT (N := 81) (n0 := 12) (n1 := 13) dX3_init_57 zAi zK_12 (by (try dsimp only); (repeat rw [zU_ne (by omega)]); exact hm _ (by omega) (by omega)) ⟨by decide, by decide, by decide, by decide⟩ (by decide) (by decide) (Nat.le_of_ble_eq_true rfl) rfl ?_
  refine wx_putRT (k := 2) dX3_init_59 zF_X3_32 zKo_2 rfl (Nat.le_of_ble_eq_true rfl) rfl rfl (fun _ => rfl) (fun _ => rfl) ?_
  refine wx_aload_n (i := 0) dX3_init_62 rfl rfl ?_
  refine wx_iconst (v := 2) dX3_init_63 (by decide) ?_
  refine wx_putIT (k := 2) dX3_init_64 zF_X3_35 zKo_2 rfl (Nat.le_of_ble_eq_true rfl) rfl rfl ?_
  refine wx_aload_n (i := 0) dX3_init_67 rfl rfl ?_
  refine wx_bipush (v := 8) dX3_init_68 (by decide) ?_
  refine wx_V1 dX3_init_70 zPV_X3_begin zLk_X3_39 rfl (Nat.le_of_ble_eq_true rfl) (Nat.le_of_ble_eq_true rfl) (Or.inl (Nat.le_of_ble_eq_true rfl)) ?_
  refine s_X3_beginC (by rfl) (fun i hi => by (repeat rw [zUr_ne (by omega)]); rw [zRv_at]; exact if_pos hi) (fun m1 f1 f2 f3 f4 => ?_)
  refine wx_r0 ?_
  refine wx_vret dX3_init_73 rfl (Or.inr rfl) ?_
  refine hK _ _ ⟨fun k w => ?_, fun k w1 w2 => ?_⟩ (fun k w => ?_) ?_ ?_ ?_ ?_ ?_
  · (repeat first | rw [zUr_ne (by omega)] | rw [zRv_ne (by omega)])
  · by_cases e : k = 2
    · subst e
      rw [zRF_ob (l := [some 3, some 7, some 8, some 9, some 10, some 11, some 12, none, none, none, none, none]) (by decide) (by rw [zKo_2]; decide) (by decide +kernel)]
      funext i
      (repeat first | rw [zUr_at] | rw [zUr_ne (by omega)] | rw [zRv_ne (by omega)])
      rw [hr 2 (by omega) (by omega)]
      unfold va_up
      rcases (by omega : i = 0 ∨ i = 1 ∨ i = 2 ∨ i = 3 ∨ i = 4 ∨ i = 5 ∨ i = 6 ∨ i = 7 ∨ i = 8 ∨ i = 9 ∨ i = 10 ∨ i = 11 ∨ 12 ≤ i) with rfl | rfl | rfl | rfl | rfl | rfl | rfl | rfl | rfl | rfl | rfl | rfl | hi
      · rfl
      · rfl
      · rfl
      · rfl
      · rfl
      · rfl
      · rfl
      · rfl
      · rfl
      · rfl
      · rfl
      · rfl
      · (repeat rw [if_neg (by omega)])
        rw [List.getD_eq_getElem?_getD, List.getElem?_eq_none hi]; rfl
    by_cases e3 : k = 3
    · subst e3
      rw [zRF_two (by decide) zK_3]
      (repeat first | rw [zUr_ne (by omega)] | rw [zRv_at] | rw [zRv_ne (by omega)])
    rw [zRF_arr (by omega) (zK_arr k (by omega) (by omega))]
    (repeat first | rw [zUr_ne (by omega)] | rw [zRv_ne (by omega)])
    exact hr k w1 w2
  · funext j
    rw [f1 k j (by omega) (by omega), zU_ne (by omega)]
  · rw [f1 2 7 (by omega) (by omega), zU_same]
  · exact f2
  · exact f3
  · rw [f1 7 0 (by omega) (by omega), zU_ne (by omega), hm 7 (by omega) (by omega)]
  · exact f4
