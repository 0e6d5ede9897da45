/-! where the tests of the class agree -/
/-- readings and lie of the class, and how many steps -/
def zCd (g : Nat → Nat → Int) (L : Int) (n : Nat) (mm : zM) : Prop := (∀ t i, t < 3 → i < 15 → mm (3 + 1 + t) i = zi (g t i)) ∧ mm 2 7 = zi L ∧ mm 2 8 = nI (n + 1)
def zOg (g : Nat → Nat → Int) (L : Int) (n : Nat) : Prop := (∀ t i, g t i = 5000 ∨ (-1000 ≤ g t i ∧ g t i ≤ 1000)) ∧ (0 ≤ L ∧ L ≤ 50) ∧ 3 ≤ n ∧ n ≤ 15
theorem zCd_of {g : Nat → Nat → Int} {L : Int} {n : Nat} {mm m1 : zM} (h : zCd g L n mm) (hf : ∀ c, ¬ (7 ≤ c) → c ≠ 2 → m1 c = mm c) (h7 : m1 2 7 = mm 2 7) (h8 : m1 2 8 = mm 2 8) : zCd g L n m1 := ⟨fun t i h1 h2 => by rw [hf _ (by omega) (by omega)]; exact h.1 t i h1 h2, h7.trans h.2.1, h8.trans h.2.2⟩
theorem zBt_y {p : Nat → Bool} {i : Nat} (h : p i = true) : zBt p (i + 1) = zBt p i ||| 1 <<< i := by
  show _ ||| _ = _
  rw [if_pos h]
theorem zBt_n {p : Nat → Bool} {i : Nat} (h : p i = false) : zBt p (i + 1) = zBt p i := by
  show _ ||| _ = _
  rw [if_neg (by rw [h]; decide), Nat.or_zero]
theorem zones_ge {n i : Nat} {x : Int32} (hx : x = nI (n + 1)) (hn : n ≤ 15) (h : n ≤ i) (hi : i < 1000) : x - 1 ≤ nI i := by
  rw [hx, nI_pred]
  exact nI_le h (by omega)
theorem zones_lt {n i : Nat} {x : Int32} (hx : x = nI (n + 1)) (hn : n ≤ 15) (h : i < n) : ¬ x - 1 ≤ nI i := by
  rw [hx, nI_pred]
  exact nI_ge h (by omega)
theorem lp_agree {d : Nat} {K : List Value → zS → Prop} {mm : zM} {g : Nat → Nat → Int} {L : Int} {n : Nat} (hO : zOg g L n) (hM : zCd g L n mm) {t u : Nat} {e : Int} (ht : t < 3) (hu : u < 3) (he : -100 ≤ e ∧ e ≤ 100) (hK : K [.int (nI (zBt (zAg g L t u e) n))] (zG mm)) : ∀ (c i : Nat) (y z : Option Value), i + c = n →  wx (d + 2) mX3_stepsOfAgreement 6 [some (.ref 2), some (.int (nI t)), some (.int (nI u)), some (.int (zi e)), some (.int (nI (zBt (zAg g L t u e) i))), some (.int (nI i)), y, z] [] (zG mm) K := by
  intro c
  induction c with
  | zero =>
    intro i y z hi 
    obtain rfl : i = n := by omega
    refine wx_iload dX3_stepsOfAgreement_6 rfl ?_
    refine wx_aload_n (i := 0) dX3_stepsOfAgreement_8 rfl rfl ?_
    refine wx_getIG (k := 2) dX3_stepsOfAgreement_9 zF_X3_43 zKo_2 rfl (Nat.le_of_ble_eq_true rfl) ?_
    refine wx_iconst (v := 1) dX3_stepsOfAgreement_12 (by decide) ?_
    refine wx_isub dX3_stepsOfAgreement_13 ?_
    refine wx_icmp_ge (tgt := 89) dX3_stepsOfAgreement_14 (by decide) (fun h14 => ?_) (fun h14 => ?_)
    · skip
      refine wx_iload dX3_stepsOfAgreement_89 rfl ?_
      refine wx_iret dX3_stepsOfAgreement_91 rfl rfl (Or.inl rfl) ?_
      exact hK
    · exact absurd (zones_ge hM.2.2 hO.2.2.2 (Nat.le_refl _) (by have := hO.2.2; omega)) h14 --end
  | succ c ih =>
    intro i y z hi 
    have hL := hO.2
    have hgb := hO.1 t i
    have hhb := hO.1 u i
    have hg := hM.1 t i ht (by omega)
    have hh := hM.1 u i hu (by omega)
    refine wx_iload dX3_stepsOfAgreement_6 rfl ?_
    refine wx_aload_n (i := 0) dX3_stepsOfAgreement_8 rfl rfl ?_
    refine wx_getIG (k := 2) dX3_stepsOfAgreement_9 zF_X3_43 zKo_2 rfl (Nat.le_of_ble_eq_true rfl) ?_
    refine wx_iconst (v := 1) dX3_stepsOfAgreement_12 (by decide) ?_
    refine wx_isub dX3_stepsOfAgreement_13 ?_
    refine wx_icmp_ge (tgt := 89) dX3_stepsOfAgreement_14 (by decide) (fun h14 => ?_) (fun h14 => ?_)
    · exact absurd h14 (zones_lt hM.2.2 hO.2.2.2 (by omega)) --end
    · skip
      refine wx_aload_n (i := 0) dX3_stepsOfAgreement_17 rfl rfl ?_
      refine wx_getRG (k := 2) (t := 3) dX3_stepsOfAgreement_18 zF_X3_11 zKo_2 rfl (Nat.le_of_ble_eq_true rfl) zRf_2_0 ?_
      refine wx_iload_n (i := 1) dX3_stepsOfAgreement_21 rfl rfl ?_
      refine wx_aaldG (k := 3) (j := t) dX3_stepsOfAgreement_22 zK_3 (Nat.le_of_ble_eq_true rfl) rfl ?_ ?_
      · exact ⟨by omega, by decide⟩
      refine wx_iload dX3_stepsOfAgreement_23 rfl ?_
      refine wx_ialdG dX3_stepsOfAgreement_25 (zKin_3 _ (by omega)) (zKlt_3 _ (by omega)) rfl ?_ ?_
      · exact ⟨by omega, by decide⟩
      refine wx_istore dX3_stepsOfAgreement_26 (Nat.le_of_ble_eq_true rfl) rfl ?_
      refine wx_aload_n (i := 0) dX3_stepsOfAgreement_28 rfl rfl ?_
      refine wx_getRG (k := 2) (t := 3) dX3_stepsOfAgreement_29 zF_X3_11 zKo_2 rfl (Nat.le_of_ble_eq_true rfl) zRf_2_0 ?_
      refine wx_iload_n (i := 2) dX3_stepsOfAgreement_32 rfl rfl ?_
      refine wx_aaldG (k := 3) (j := u) dX3_stepsOfAgreement_33 zK_3 (Nat.le_of_ble_eq_true rfl) rfl ?_ ?_
      · exact ⟨by omega, by decide⟩
      refine wx_iload dX3_stepsOfAgreement_34 rfl ?_
      refine wx_ialdG dX3_stepsOfAgreement_36 (zKin_3 _ (by omega)) (zKlt_3 _ (by omega)) rfl ?_ ?_
      · exact ⟨by omega, by decide⟩
      refine wx_istore dX3_stepsOfAgreement_37 (Nat.le_of_ble_eq_true rfl) rfl ?_
      refine wx_iload dX3_stepsOfAgreement_39 rfl ?_
      refine wx_sipush (v := 5000) dX3_stepsOfAgreement_41 (by decide) ?_
      refine wx_icmp_eq (tgt := 83) dX3_stepsOfAgreement_44 (by decide) (fun h44 => ?_) (fun h44 => ?_)
      · rw [hg, zl_5000, zi_eq (by omega) (by omega)] at h44
        have hd : nI (zBt (zAg g L t u e) i) = nI (zBt (zAg g L t u e) (i + 1)) := by rw [zBt_n (decide_eq_false (fun w => w.1 h44))]
        refine wx_inc (c := 1) dX3_stepsOfAgreement_83 rfl (by decide) (Nat.le_of_ble_eq_true rfl) rfl ?_
        refine wx_goto (tgt := 6) dX3_stepsOfAgreement_86 (by decide) ?_
        rw [nI_1, hd]
        exact ih (i + 1) _ _ (by omega)
      · rw [hg, zl_5000, zi_eq (by omega) (by omega)] at h44
        
        refine wx_iload dX3_stepsOfAgreement_47 rfl ?_
        refine wx_sipush (v := 5000) dX3_stepsOfAgreement_49 (by decide) ?_
        refine wx_icmp_eq (tgt := 83) dX3_stepsOfAgreement_52 (by decide) (fun h52 => ?_) (fun h52 => ?_)
        · rw [hh, zl_5000, zi_eq (by omega) (by omega)] at h52
          have hd : nI (zBt (zAg g L t u e) i) = nI (zBt (zAg g L t u e) (i + 1)) := by rw [zBt_n (decide_eq_false (fun w => w.2.1 h52))]
          refine wx_inc (c := 1) dX3_stepsOfAgreement_83 rfl (by decide) (Nat.le_of_ble_eq_true rfl) rfl ?_
          refine wx_goto (tgt := 6) dX3_stepsOfAgreement_86 (by decide) ?_
          rw [nI_1, hd]
          exact ih (i + 1) _ _ (by omega)
        · rw [hh, zl_5000, zi_eq (by omega) (by omega)] at h52
          
          refine wx_iload dX3_stepsOfAgreement_55 rfl ?_
          refine wx_iload_n (i := 3) dX3_stepsOfAgreement_57 rfl rfl ?_
          refine wx_isub dX3_stepsOfAgreement_58 ?_
          refine wx_iload dX3_stepsOfAgreement_59 rfl ?_
          refine wx_isub dX3_stepsOfAgreement_61 ?_
          refine wx_S1 dX3_stepsOfAgreement_62 zPS_J9_abs_0f7a4 zLk_X3_83 (Nat.le_of_ble_eq_true rfl) (Or.inr rfl) ?_
          refine s_J9_abs_0f7a4 _ ?_
          refine wx_r1 ?_
          refine wx_iconst (v := 2) dX3_stepsOfAgreement_65 (by decide) ?_
          refine wx_aload_n (i := 0) dX3_stepsOfAgreement_66 rfl rfl ?_
          refine wx_getIG (k := 2) dX3_stepsOfAgreement_67 zF_X3_35 zKo_2 rfl (Nat.le_of_ble_eq_true rfl) ?_
          refine wx_imul dX3_stepsOfAgreement_70 ?_
          refine wx_icmp_gt (tgt := 83) dX3_stepsOfAgreement_71 (by decide) (fun h71 => ?_) (fun h71 => ?_)
          · rw [hg, hh, hM.2.1, zl_2, zi_mul, zi_sub, zi_sub, zab (by omega), zi_lt (by omega) (by omega)] at h71
            have hd : nI (zBt (zAg g L t u e) i) = nI (zBt (zAg g L t u e) (i + 1)) := by rw [zBt_n (decide_eq_false (fun w => absurd w.2.2 (by omega)))]
            refine wx_inc (c := 1) dX3_stepsOfAgreement_83 rfl (by decide) (Nat.le_of_ble_eq_true rfl) rfl ?_
            refine wx_goto (tgt := 6) dX3_stepsOfAgreement_86 (by decide) ?_
            rw [nI_1, hd]
            exact ih (i + 1) _ _ (by omega)
          · rw [hg, hh, hM.2.1, zl_2, zi_mul, zi_sub, zi_sub, zab (by omega), zi_lt (by omega) (by omega)] at h71
            have hd : nI (zBt (zAg g L t u e) i) ||| 1 <<< (nI i &&& 31) = nI (zBt (zAg g L t u e) (i + 1)) := by rw [nI_shl i (by omega), nI_or, zBt_y (decide_eq_true ⟨h44, h52, by omega⟩)]
            refine wx_iload dX3_stepsOfAgreement_74 rfl ?_
            refine wx_iconst (v := 1) dX3_stepsOfAgreement_76 (by decide) ?_
            refine wx_iload dX3_stepsOfAgreement_77 rfl ?_
            refine wx_ishl dX3_stepsOfAgreement_79 ?_
            refine wx_ior dX3_stepsOfAgreement_80 ?_
            refine wx_istore dX3_stepsOfAgreement_81 (Nat.le_of_ble_eq_true rfl) rfl ?_
            refine wx_inc (c := 1) dX3_stepsOfAgreement_83 rfl (by decide) (Nat.le_of_ble_eq_true rfl) rfl ?_
            refine wx_goto (tgt := 6) dX3_stepsOfAgreement_86 (by decide) ?_
            rw [nI_1, hd]
            exact ih (i + 1) _ _ (by omega)
theorem s_X3_stepsOfAgreement {d : Nat} {K : List Value → zS → Prop} {mm : zM} {g : Nat → Nat → Int} {L : Int} {n : Nat} (hO : zOg g L n) (hM : zCd g L n mm) {t u : Nat} {e : Int} (ht : t < 3) (hu : u < 3) (he : -100 ≤ e ∧ e ≤ 100) (hK : K [.int (nI (zBt (zAg g L t u e) n))] (zG mm)) : wm (d + 2) mX3_stepsOfAgreement [.ref 2, .int (nI t), .int (nI u), .int (zi e)] (zG mm) K := by
  refine wm_of2 (L0 := [some (.ref 2), some (.int (nI t)), some (.int (nI u)), some (.int (zi e)), none, none, none, none]) zCm_X3_stepsOfAgreement (Or.inl rfl) (Nat.le_of_ble_eq_true rfl) rfl ?_
  refine wx_iconst (v := 0) dX3_stepsOfAgreement_0 (by decide) ?_
  refine wx_istore dX3_stepsOfAgreement_1 (Nat.le_of_ble_eq_true rfl) rfl ?_
  refine wx_iconst (v := 0) dX3_stepsOfAgreement_3 (by decide) ?_
  refine wx_istore dX3_stepsOfAgreement_4 (Nat.le_of_ble_eq_true rfl) rfl ?_
  exact lp_agree hO hM ht hu he hK n 0 _ _ (by omega)
theorem zU_lt {m1 : zM} {k i : Nat} {v : Int32} {f : Nat → Int32} (h : ∀ j, j < i → m1 k j = f j) (hv : v = f i) : ∀ j, j < i + 1 → zU m1 k i v k j = f j := fun j hj => by
  by_cases e : j = i
  · subst e; rw [zU_same]; exact hv
  · rw [zU_off (fun w => e w.2)]; exact h j (by omega)
theorem lp_ag2 {d : Nat} {K : List Value → zS → Prop} {mm : zM} {g : Nat → Nat → Int} {L : Int} {n : Nat} (hO : zOg g L n) (hM : zCd g L n mm) (hK : ∀ m1 : zM, (∀ c, c ≠ 10 → c ≠ 11 → c ≠ 12 → m1 c = mm c) → (∀ j, j < 41 → m1 10 j = nI (zBt (zAg g L 0 1 ((j : Int) - 20)) n)) → (∀ j, j < 41 → m1 11 j = nI (zBt (zAg g L 0 2 ((j : Int) - 20)) n)) → (∀ j, j < 81 → m1 12 j = nI (zBt (zAg g L 1 2 ((j : Int) - 40)) n)) → K [] (zG m1)) : ∀ (c i : Nat) (m1 : zM), i + c = 81 → (∀ c, c ≠ 10 → c ≠ 11 → c ≠ 12 → m1 c = mm c) → (∀ j, j < 41 → m1 10 j = nI (zBt (zAg g L 0 1 ((j : Int) - 20)) n)) → (∀ j, j < 41 → m1 11 j = nI (zBt (zAg g L 0 2 ((j : Int) - 20)) n)) → (∀ j, j < i → m1 12 j = nI (zBt (zAg g L 1 2 ((j : Int) - 40)) n)) → wx (d + 3) mX3_settleAgreements 50 [some (.ref 2), some (.int (zi ((i : Int) - 40)))] [] (zG m1) K := by
  intro c
  induction c with
  | zero =>
    intro i m1 hi hf h1 h2 h3
    obtain rfl : i = 81 := by omega
    refine wx_iload_n (i := 1) dX3_settleAgreements_50 rfl rfl ?_
    refine wx_bipush (v := 40) dX3_settleAgreements_51 (by decide) ?_
    refine wx_icmp_gt (tgt := 78) dX3_settleAgreements_53 (by decide) (fun h53 => ?_) (fun h53 => ?_)
    · skip
      refine wx_vret dX3_settleAgreements_78 rfl (Or.inl rfl) ?_
      exact hK m1 hf h1 h2 h3
    · exact absurd (show (40 : Int32) < zi _ by rw [show (40 : Int32) = zi 40 from rfl, zi_lt (by omega) (by omega)]; omega) h53 --end
  | succ c ih =>
    intro i m1 hi hf h1 h2 h3
    refine wx_iload_n (i := 1) dX3_settleAgreements_50 rfl rfl ?_
    refine wx_bipush (v := 40) dX3_settleAgreements_51 (by decide) ?_
    refine wx_icmp_gt (tgt := 78) dX3_settleAgreements_53 (by decide) (fun h53 => ?_) (fun h53 => ?_)
    · exact absurd h53 (by rw [show (40 : Int32) = zi 40 from rfl, zi_lt (by omega) (by omega)]; omega) --end
    · skip
      refine wx_aload_n (i := 0) dX3_settleAgreements_56 rfl rfl ?_
      refine wx_getRG (k := 2) (t := 12) dX3_settleAgreements_57 zF_X3_32 zKo_2 rfl (Nat.le_of_ble_eq_true rfl) zRf_2_6 ?_
      refine wx_iload_n (i := 1) dX3_settleAgreements_60 rfl rfl ?_
      refine wx_bipush (v := 40) dX3_settleAgreements_61 (by decide) ?_
      refine wx_iadd dX3_settleAgreements_63 ?_
      refine wx_aload_n (i := 0) dX3_settleAgreements_64 rfl rfl ?_
      refine wx_iconst (v := 1) dX3_settleAgreements_65 (by decide) ?_
      refine wx_iconst (v := 2) dX3_settleAgreements_66 (by decide) ?_
      refine wx_iload_n (i := 1) dX3_settleAgreements_67 rfl rfl ?_
      refine wx_V3 dX3_settleAgreements_68 zPV_X3_stepsOfAgreement zLk_X3_79 rfl (Nat.le_of_ble_eq_true rfl) (Nat.le_of_ble_eq_true rfl) (Or.inr rfl) ?_
      refine s_X3_stepsOfAgreement (t := 1) (u := 2) (e := (i : Int) - 40) hO (zCd_of hM (fun c h1 h2 => hf c (by omega) (by omega) (by omega)) (by rw [hf 2 (by decide) (by decide) (by decide)]) (by rw [hf 2 (by decide) (by decide) (by decide)])) (by decide) (by decide) (by omega) ?_
      refine wx_r1 ?_
      refine wx_iastG (k := 12) (j := i) dX3_settleAgreements_71 zK_12 (Nat.le_of_ble_eq_true rfl) ?_ ?_ ?_
      · (rw [show (40 : Int32) = zi 40 from rfl, zi_add, zi_nI]; exact congrArg zi (by omega))
      · exact ⟨by omega, by decide⟩
      refine wx_inc (c := 1) dX3_settleAgreements_72 rfl (by decide) (Nat.le_of_ble_eq_true rfl) rfl ?_
      refine wx_goto (tgt := 50) dX3_settleAgreements_75 (by decide) ?_
      rw [zl_1, zi_add, show (i : Int) - 40 + 1 = ((i + 1 : Nat) : Int) - 40 by omega]
      refine ih (i + 1) _ (by omega) (fun c w1 w2 w3 => (zU_ne w3).trans (hf c w1 w2 w3)) (fun j hj => by rw [zU_ne (by decide)]; exact h1 j hj) (fun j hj => by rw [zU_ne (by decide)]; exact h2 j hj) (zU_lt (f := fun j => nI (zBt (zAg g L 1 2 ((j : Int) - 40)) n)) h3 rfl)
theorem lp_ag1 {d : Nat} {K : List Value → zS → Prop} {mm : zM} {g : Nat → Nat → Int} {L : Int} {n : Nat} (hO : zOg g L n) (hM : zCd g L n mm) (hK : ∀ m1 : zM, (∀ c, c ≠ 10 → c ≠ 11 → c ≠ 12 → m1 c = mm c) → (∀ j, j < 41 → m1 10 j = nI (zBt (zAg g L 0 1 ((j : Int) - 20)) n)) → (∀ j, j < 41 → m1 11 j = nI (zBt (zAg g L 0 2 ((j : Int) - 20)) n)) → (∀ j, j < 81 → m1 12 j = nI (zBt (zAg g L 1 2 ((j : Int) - 40)) n)) → K [] (zG m1)) : ∀ (c i : Nat) (m1 : zM), i + c = 41 → (∀ c, c ≠ 10 → c ≠ 11 → c ≠ 12 → m1 c = mm c) → (∀ j, j < i → m1 10 j = nI (zBt (zAg g L 0 1 ((j : Int) - 20)) n)) → (∀ j, j < i → m1 11 j = nI (zBt (zAg g L 0 2 ((j : Int) - 20)) n)) → wx (d + 3) mX3_settleAgreements 3 [some (.ref 2), some (.int (zi ((i : Int) - 20)))] [] (zG m1) K := by
  intro c
  induction c with
  | zero =>
    intro i m1 hi hf h1 h2
    obtain rfl : i = 41 := by omega
    refine wx_iload_n (i := 1) dX3_settleAgreements_3 rfl rfl ?_
    refine wx_bipush (v := 20) dX3_settleAgreements_4 (by decide) ?_
    refine wx_icmp_gt (tgt := 47) dX3_settleAgreements_6 (by decide) (fun h6 => ?_) (fun h6 => ?_)
    · skip
      refine wx_bipush (v := (-40)) dX3_settleAgreements_47 (by decide) ?_
      refine wx_istore_n (i := 1) dX3_settleAgreements_49 rfl (Nat.le_of_ble_eq_true rfl) rfl ?_
      exact lp_ag2 hO hM hK 81 0 m1 (by omega) hf h1 h2 (fun j hj => absurd hj (Nat.not_lt_zero j))
    · exact absurd (show (20 : Int32) < zi _ by rw [show (20 : Int32) = zi 20 from rfl, zi_lt (by omega) (by omega)]; omega) h6 --end
  | succ c ih =>
    intro i m1 hi hf h1 h2
    refine wx_iload_n (i := 1) dX3_settleAgreements_3 rfl rfl ?_
    refine wx_bipush (v := 20) dX3_settleAgreements_4 (by decide) ?_
    refine wx_icmp_gt (tgt := 47) dX3_settleAgreements_6 (by decide) (fun h6 => ?_) (fun h6 => ?_)
    · exact absurd h6 (by rw [show (20 : Int32) = zi 20 from rfl, zi_lt (by omega) (by omega)]; omega) --end
    · skip
      refine wx_aload_n (i := 0) dX3_settleAgreements_9 rfl rfl ?_
      refine wx_getRG (k := 2) (t := 10) dX3_settleAgreements_10 zF_X3_26 zKo_2 rfl (Nat.le_of_ble_eq_true rfl) zRf_2_4 ?_
      refine wx_iload_n (i := 1) dX3_settleAgreements_13 rfl rfl ?_
      refine wx_bipush (v := 20) dX3_settleAgreements_14 (by decide) ?_
      refine wx_iadd dX3_settleAgreements_16 ?_
      refine wx_aload_n (i := 0) dX3_settleAgreements_17 rfl rfl ?_
      refine wx_iconst (v := 0) dX3_settleAgreements_18 (by decide) ?_
      refine wx_iconst (v := 1) dX3_settleAgreements_19 (by decide) ?_
      refine wx_iload_n (i := 1) dX3_settleAgreements_20 rfl rfl ?_
      refine wx_V3 dX3_settleAgreements_21 zPV_X3_stepsOfAgreement zLk_X3_79 rfl (Nat.le_of_ble_eq_true rfl) (Nat.le_of_ble_eq_true rfl) (Or.inr rfl) ?_
      refine s_X3_stepsOfAgreement (t := 0) (u := 1) (e := (i : Int) - 20) hO (zCd_of hM (fun c h1 h2 => hf c (by omega) (by omega) (by omega)) (by rw [hf 2 (by decide) (by decide) (by decide)]) (by rw [hf 2 (by decide) (by decide) (by decide)])) (by decide) (by decide) (by omega) ?_
      refine wx_r1 ?_
      refine wx_iastG (k := 10) (j := i) dX3_settleAgreements_24 zK_10 (Nat.le_of_ble_eq_true rfl) ?_ ?_ ?_
      · (rw [show (20 : Int32) = zi 20 from rfl, zi_add, zi_nI]; exact congrArg zi (by omega))
      · exact ⟨by omega, by decide⟩
      refine wx_aload_n (i := 0) dX3_settleAgreements_25 rfl rfl ?_
      refine wx_getRG (k := 2) (t := 11) dX3_settleAgreements_26 zF_X3_29 zKo_2 rfl (Nat.le_of_ble_eq_true rfl) zRf_2_5 ?_
      refine wx_iload_n (i := 1) dX3_settleAgreements_29 rfl rfl ?_
      refine wx_bipush (v := 20) dX3_settleAgreements_30 (by decide) ?_
      refine wx_iadd dX3_settleAgreements_32 ?_
      refine wx_aload_n (i := 0) dX3_settleAgreements_33 rfl rfl ?_
      refine wx_iconst (v := 0) dX3_settleAgreements_34 (by decide) ?_
      refine wx_iconst (v := 2) dX3_settleAgreements_35 (by decide) ?_
      refine wx_iload_n (i := 1) dX3_settleAgreements_36 rfl rfl ?_
      refine wx_V3 dX3_settleAgreements_37 zPV_X3_stepsOfAgreement zLk_X3_79 rfl (Nat.le_of_ble_eq_true rfl) (Nat.le_of_ble_eq_true rfl) (Or.inr rfl) ?_
      refine s_X3_stepsOfAgreement (t := 0) (u := 2) (e := (i : Int) - 20) hO (zCd_of hM (fun c h1 h2 => (zU_ne (by omega)).trans (hf c (by omega) (by omega) (by omega))) (by rw [zU_ne (by decide), hf 2 (by decide) (by decide) (by decide)]) (by rw [zU_ne (by decide), hf 2 (by decide) (by decide) (by decide)])) (by decide) (by decide) (by omega) ?_
      refine wx_r1 ?_
      refine wx_iastG (k := 11) (j := i) dX3_settleAgreements_40 zK_11 (Nat.le_of_ble_eq_true rfl) ?_ ?_ ?_
      · (rw [show (20 : Int32) = zi 20 from rfl, zi_add, zi_nI]; exact congrArg zi (by omega))
      · exact ⟨by omega, by decide⟩
      refine wx_inc (c := 1) dX3_settleAgreements_41 rfl (by decide) (Nat.le_of_ble_eq_true rfl) rfl ?_
      refine wx_goto (tgt := 3) dX3_settleAgreements_44 (by decide) ?_
      rw [zl_1, zi_add, show (i : Int) - 20 + 1 = ((i + 1 : Nat) : Int) - 20 by omega]
      refine ih (i + 1) _ (by omega) (fun c w1 w2 w3 => (zU_ne w2).trans ((zU_ne w1).trans (hf c w1 w2 w3))) (fun j hj => ?_) (zU_lt (f := fun j => nI (zBt (zAg g L 0 2 ((j : Int) - 20)) n)) (fun j hj => by rw [zU_ne (by decide)]; exact h2 j hj) rfl)
      rw [zU_ne (by decide)]
      exact zU_lt (f := fun j => nI (zBt (zAg g L 0 1 ((j : Int) - 20)) n)) h1 rfl j hj
theorem s_X3_settleAgreements {d : Nat} {K : List Value → zS → Prop} {mm : zM} {g : Nat → Nat → Int} {L : Int} {n : Nat} (hO : zOg g L n) (hM : zCd g L n mm) (hK : ∀ m1 : zM, (∀ c, c ≠ 10 → c ≠ 11 → c ≠ 12 → m1 c = mm c) → (∀ j, j < 41 → m1 10 j = nI (zBt (zAg g L 0 1 ((j : Int) - 20)) n)) → (∀ j, j < 41 → m1 11 j = nI (zBt (zAg g L 0 2 ((j : Int) - 20)) n)) → (∀ j, j < 81 → m1 12 j = nI (zBt (zAg g L 1 2 ((j : Int) - 40)) n)) → K [] (zG m1)) : wm (d + 3) mX3_settleAgreements [.ref 2] (zG mm) K := by
  refine wm_of2 (L0 := [some (.ref 2), none]) zCm_X3_settleAgreements (Or.inl rfl) (Nat.le_of_ble_eq_true rfl) rfl ?_
  refine wx_bipush (v := (-20)) dX3_settleAgreements_0 (by decide) ?_
  refine wx_istore_n (i := 1) dX3_settleAgreements_2 rfl (Nat.le_of_ble_eq_true rfl) rfl ?_
  exact lp_ag1 hO hM hK 41 0 mm (by omega) (fun _ _ _ _ => rfl) (fun j hj => absurd hj (Nat.not_lt_zero j)) (fun j hj => absurd hj (Nat.not_lt_zero j))
