/-! plans of the reference: the table of costs -/
noncomputable def zMvl (h p : Nat → Int32) (r : Int32) (z : Nat) (F : Nat → Nat) (s m : Nat) : Nat := @ite _ (zRt h p r z s m) (Classical.propDecidable _) (F (zNx s m) + m) 1000000
theorem zMvl_y {h p : Nat → Int32} {r : Int32} {z : Nat} {F : Nat → Nat} {s m : Nat} (q : zRt h p r z s m) : zMvl h p r z F s m = F (zNx s m) + m := @if_pos _ (Classical.propDecidable _) q _ _ _
theorem zMvl_n {h p : Nat → Int32} {r : Int32} {z : Nat} {F : Nat → Nat} {s m : Nat} (q : ¬ zRt h p r z s m) : zMvl h p r z F s m = 1000000 := @if_neg _ (Classical.propDecidable _) q _ _ _
/-- the table's cost of the last c places -/
noncomputable def zMko (n : Nat) (h p : Nat → Int32) (r : Int32) : Nat → Nat → Nat
  | 0, _ => 0
  | c + 1, s => zLm 1000000 (zMvl h p r (n + 1 - c) (zMko n h p r c) s) (zMo n (n + 1 - c) + 1)
theorem zMko_s {n : Nat} {h p : Nat → Int32} {r : Int32} {z c : Nat} (hz : z + c = n + 1) (s : Nat) : zMko n h p r (c + 1) s = zLm 1000000 (zMvl h p r z (zMko n h p r c) s) (zMo n z + 1) := by
  show zLm 1000000 (zMvl h p r (n + 1 - c) (zMko n h p r c) s) (zMo n (n + 1 - c) + 1) = _
  rw [show n + 1 - c = z by omega]
theorem zMko_le {n : Nat} {h p : Nat → Int32} {r : Int32} : ∀ c s, zMko n h p r c s ≤ 1000000
  | 0, _ => Nat.zero_le _
  | c + 1, s => zLm_le _ _ _
/-- rows from b on stand in the table -/
def zKc (n : Nat) (h p : Nat → Int32) (r : Int32) (mm : zM) (b : Nat) : Prop := ∀ z s, b ≤ z → z ≤ n + 2 → s < 1296 → mm 146 (1296 * z + s) = nI (zMko n h p r (n + 2 - z) s)
def zKb (n : Nat) (h p : Nat → Int32) (r : Int32) (mm : zM) (z s : Nat) : Prop := zKc n h p r mm (z + 1) ∧ ∀ s2, s2 < s → mm 146 (1296 * z + s2) = nI (zMko n h p r (n + 2 - z) s2)
theorem zKb_0 {n : Nat} {h p : Nat → Int32} {r : Int32} {mm : zM} {z : Nat} (k : zKc n h p r mm (z + 1)) : zKb n h p r mm z 0 := ⟨k, fun s a => absurd a (Nat.not_lt_zero s)⟩
theorem zKb_e {n : Nat} {h p : Nat → Int32} {r : Int32} {mm : zM} {z : Nat} (k : zKb n h p r mm z 1296) : zKc n h p r mm z := fun a s h1 h2 h3 => by
  by_cases q : a = z
  · rw [q]; exact k.2 s h3
  · exact k.1 a s (by omega) h2 h3
theorem zKb_s {n : Nat} {h p : Nat → Int32} {r : Int32} {mm : zM} {z i : Nat} (k : zKb n h p r mm z i) (hi : i < 1296) : zKb n h p r (zU mm 146 (1296 * z + i) (nI (zMko n h p r (n + 2 - z) i))) z (i + 1) := by
  refine ⟨fun a s h1 h2 h3 => ?_, fun s hs => ?_⟩
  · rw [zU_off (by omega)]; exact k.1 a s h1 h2 h3
  · by_cases q : s = i
    · rw [q, zU_same]
    · rw [zU_off (by omega)]; exact k.2 s (by omega)
def zFko (mm m2 : zM) : Prop := ∀ c, c ≠ 146 → m2 c = mm c
theorem lp_kc {d : Nat} {K : List Value → zS → Prop} {mm : zM} {n t : Nat} {h p : Nat → Int32} {r : Int32} (hzn : mm 128 0 = nI n) (hn : 4 ≤ n ∧ n ≤ 16) (ht : t < 3) (hh : mm 129 = h) (hp : zPm mm t = p) (hr : mm 128 13 = r) {z s : Nat} (hz : z < n + 2) (hs : s < 1296) (hT : zKc n h p r mm (z + 1)) (hK : ∀ y5 y6 : Option Value, wx (d + 2) mX9_costs 119 [some (.ref 128), some (.int (nI t)), some (.int (nI z)), some (.int (nI s)), some (.int (nI (zMko n h p r (n + 2 - z) s))), y5, y6] [] (zG mm) K)  : ∀ (c i : Nat) (y6 : Option Value), i + c = (zMo n z + 1) →  wx (d + 2) mX9_costs 41 [some (.ref 128), some (.int (nI t)), some (.int (nI z)), some (.int (nI s)), some (.int (nI (zLm 1000000 (zMvl h p r z (zMko n h p r (n + 1 - z)) s) i))), some (.int (nI i)), y6] [] (zG mm) K := by
  intro c
  induction c with
  | zero =>
    intro i y6 hi 
    obtain rfl : i = (zMo n z + 1) := by omega
    have hmo := zMo_le n z
    have hV : zMko n h p r (n + 2 - z) s = zLm 1000000 (zMvl h p r z (zMko n h p r (n + 1 - z)) s) (zMo n z + 1) := by
      rw [show n + 2 - z = (n + 1 - z) + 1 by omega]
      exact zMko_s (by omega) s
    refine wx_iload dX9_costs_41 rfl ?_
    refine wx_aload_n (i := 0) dX9_costs_43 rfl rfl ?_
    refine wx_iload_n (i := 2) dX9_costs_44 rfl rfl ?_
    refine wx_V1 dX9_costs_45 zPV_X9_most zLk_X9_182 rfl (Nat.le_of_ble_eq_true rfl) (Nat.le_of_ble_eq_true rfl) (Or.inr rfl) ?_
    refine s_X9_most hzn hn.2 (by omega) ?_
    refine wx_r1 ?_
    refine wx_icmp_gt (tgt := 119) dX9_costs_48 (by decide) (fun h48 => ?_) (fun h48 => ?_)
    · skip
      rw [hV] at hK
      exact hK _ _
    · exact absurd (nI_lt (Nat.lt_succ_self _) (by omega)) h48 --end
  | succ c ih =>
    intro i y6 hi 
    have hmo := zMo_le n z
    have hV : zMko n h p r (n + 2 - z) s = zLm 1000000 (zMvl h p r z (zMko n h p r (n + 1 - z)) s) (zMo n z + 1) := by
      rw [show n + 2 - z = (n + 1 - z) + 1 by omega]
      exact zMko_s (by omega) s
    have hlb := zLm_le 1000000 (zMvl h p r z (zMko n h p r (n + 1 - z)) s) i
    refine wx_iload dX9_costs_41 rfl ?_
    refine wx_aload_n (i := 0) dX9_costs_43 rfl rfl ?_
    refine wx_iload_n (i := 2) dX9_costs_44 rfl rfl ?_
    refine wx_V1 dX9_costs_45 zPV_X9_most zLk_X9_182 rfl (Nat.le_of_ble_eq_true rfl) (Nat.le_of_ble_eq_true rfl) (Or.inr rfl) ?_
    refine s_X9_most hzn hn.2 (by omega) ?_
    refine wx_r1 ?_
    refine wx_icmp_gt (tgt := 119) dX9_costs_48 (by decide) (fun h48 => ?_) (fun h48 => ?_)
    · exact absurd h48 (nI_nlt (by omega) (by omega)) --end
    · skip
      refine wx_iload_n (i := 2) dX9_costs_51 rfl rfl ?_
      refine wx_aload_n (i := 0) dX9_costs_52 rfl rfl ?_
      refine wx_getIG (k := 128) dX9_costs_53 zF_X9_7 zKo_128 rfl (Nat.le_of_ble_eq_true rfl) ?_
      refine wx_iconst (v := 2) dX9_costs_56 (by decide) ?_
      refine wx_iadd dX9_costs_57 ?_
      refine wx_icmp_ge (tgt := 119) dX9_costs_58 (by decide) (fun h58 => ?_) (fun h58 => ?_)
      · rw [hzn, show (2 : Int32) = nI 2 from rfl, nI_add, nI_leI (by omega) (by omega)] at h58
        exact absurd h58 (by omega) --end
      · skip
        refine wx_aload_n (i := 0) dX9_costs_61 rfl rfl ?_
        refine wx_iload_n (i := 1) dX9_costs_62 rfl rfl ?_
        refine wx_iload_n (i := 2) dX9_costs_63 rfl rfl ?_
        refine wx_iload_n (i := 3) dX9_costs_64 rfl rfl ?_
        refine wx_iload dX9_costs_65 rfl ?_
        refine wx_V4 dX9_costs_67 zPV_X9_isRight zLk_X9_185 rfl (Nat.le_of_ble_eq_true rfl) (Nat.le_of_ble_eq_true rfl) (Or.inr rfl) ?_
        refine s_X9_isRight hn.2 ht hz hs (fun b hb => ?_)
        refine wx_r1 ?_
        refine wx_if_eq (tgt := 113) dX9_costs_70 (by decide) (fun h70 => ?_) (fun h70 => ?_)
        · have hno : ¬ zRt h p r z s i := by
            rw [← hh, ← hp, ← hr]
            rcases hb with ⟨e, _⟩ | ⟨_, e⟩
            · rw [e] at h70; exact absurd h70 (by decide)
            · exact e
          have hv1 := zMvl_n (F := zMko n h p r (n + 1 - z)) hno
          have e1 : zLm 1000000 (zMvl h p r z (zMko n h p r (n + 1 - z)) s) (i + 1) = zLm 1000000 (zMvl h p r z (zMko n h p r (n + 1 - z)) s) i := if_neg (by omega)
          refine wx_inc (c := 1) dX9_costs_113 rfl (by decide) (Nat.le_of_ble_eq_true rfl) rfl ?_
          refine wx_goto (tgt := 41) dX9_costs_116 (by decide) ?_
          rw [nI_1, ← e1]
          exact ih (i + 1) _ (by omega)
        · have hye : zRt h p r z s i := by
            rw [← hh, ← hp, ← hr]
            rcases hb with ⟨_, e⟩ | ⟨e, _⟩
            · exact e
            · exact absurd e h70
          have hv1 := zMvl_y (F := zMko n h p r (n + 1 - z)) hye
          have hv2 := zMko_le (n := n) (h := h) (p := p) (r := r) (n + 1 - z) (zNx s i)
          refine wx_aload_n (i := 0) dX9_costs_73 rfl rfl ?_
          refine wx_getRG (k := 128) (t := 146) dX9_costs_74 zF_X9_80 zKo_128 rfl (Nat.le_of_ble_eq_true rfl) zRf_128_28 ?_
          refine wx_sipush (v := 1296) dX9_costs_77 (by decide) ?_
          refine wx_iload_n (i := 2) dX9_costs_80 rfl rfl ?_
          refine wx_iconst (v := 1) dX9_costs_81 (by decide) ?_
          refine wx_iadd dX9_costs_82 ?_
          refine wx_imul dX9_costs_83 ?_
          refine wx_iload_n (i := 3) dX9_costs_84 rfl rfl ?_
          refine wx_iload dX9_costs_85 rfl ?_
          refine wx_S2 dX9_costs_87 zPS_X9_next zLk_X9_189 (Nat.le_of_ble_eq_true rfl) (Or.inr rfl) ?_
          refine s_X9_next hs (show i ≤ 5 by omega) ?_
          refine wx_r1 ?_
          refine wx_iadd dX9_costs_90 ?_
          refine wx_ialdG (k := 146) (j := 1296 * (z + 1) + zNx s i) dX9_costs_91 zK_146 (Nat.le_of_ble_eq_true rfl) ?_ ?_ ?_
          · (rw [nI_1, show (1296 : Int32) = nI 1296 from rfl, nI_mul, nI_add])
          · exact ⟨by have := zNx_lt s i; omega, by decide⟩
          rw [hT (z + 1) (zNx s i) (by omega) (by omega) (zNx_lt s i), show n + 2 - (z + 1) = n + 1 - z by omega]
          refine wx_iload dX9_costs_92 rfl ?_
          refine wx_iadd dX9_costs_94 ?_
          rw [nI_add, ← hv1]
          refine wx_istore dX9_costs_95 (Nat.le_of_ble_eq_true rfl) rfl ?_
          refine wx_iload dX9_costs_97 rfl ?_
          refine wx_iload dX9_costs_99 rfl ?_
          refine wx_icmp_ge (tgt := 109) dX9_costs_101 (by decide) (fun h101 => ?_) (fun h101 => ?_)
          · rw [nI_leI (by omega) (by omega)] at h101
            have e1 : zLm 1000000 (zMvl h p r z (zMko n h p r (n + 1 - z)) s) (i + 1) = zLm 1000000 (zMvl h p r z (zMko n h p r (n + 1 - z)) s) i := if_neg (by omega)
            refine wx_iload dX9_costs_109 rfl ?_
            refine wx_istore dX9_costs_111 (Nat.le_of_ble_eq_true rfl) rfl ?_
            refine wx_inc (c := 1) dX9_costs_113 rfl (by decide) (Nat.le_of_ble_eq_true rfl) rfl ?_
            refine wx_goto (tgt := 41) dX9_costs_116 (by decide) ?_
            rw [nI_1, ← e1]
            exact ih (i + 1) _ (by omega)
          · rw [nI_leI (by omega) (by omega)] at h101
            have e1 : zLm 1000000 (zMvl h p r z (zMko n h p r (n + 1 - z)) s) (i + 1) = zMvl h p r z (zMko n h p r (n + 1 - z)) s i := if_pos (by omega)
            refine wx_iload dX9_costs_104 rfl ?_
            refine wx_goto (tgt := 111) dX9_costs_106 (by decide) ?_
            refine wx_istore dX9_costs_111 (Nat.le_of_ble_eq_true rfl) rfl ?_
            refine wx_inc (c := 1) dX9_costs_113 rfl (by decide) (Nat.le_of_ble_eq_true rfl) rfl ?_
            refine wx_goto (tgt := 41) dX9_costs_116 (by decide) ?_
            rw [nI_1, ← e1]
            exact ih (i + 1) _ (by omega)
theorem lp_kcell {d : Nat} {K : List Value → zS → Prop} {mm : zM} {n t : Nat} {h p : Nat → Int32} {r : Int32} (hzn : mm 128 0 = nI n) (hn : 4 ≤ n ∧ n ≤ 16) (ht : t < 3) (hh : mm 129 = h) (hp : zPm mm t = p) (hr : mm 128 13 = r) {z s : Nat} (hz : z ≤ n + 2) (hs : s < 1296) (hT : z < n + 2 → zKc n h p r mm (z + 1)) {y4 y5 y6 : Option Value} (hK : ∀ y5 y6 : Option Value, wx (d + 2) mX9_costs 119 [some (.ref 128), some (.int (nI t)), some (.int (nI z)), some (.int (nI s)), some (.int (nI (zMko n h p r (n + 2 - z) s))), y5, y6] [] (zG mm) K)  : wx (d + 2) mX9_costs 20 [some (.ref 128), some (.int (nI t)), some (.int (nI z)), some (.int (nI s)), y4, y5, y6] [] (zG mm) K := by
  by_cases hq : z = n + 2
  · rw [hq] at hK ⊢
    refine wx_iload_n (i := 2) dX9_costs_20 rfl rfl ?_
    refine wx_aload_n (i := 0) dX9_costs_21 rfl rfl ?_
    refine wx_getIG (k := 128) dX9_costs_22 zF_X9_7 zKo_128 rfl (Nat.le_of_ble_eq_true rfl) ?_
    refine wx_iconst (v := 2) dX9_costs_25 (by decide) ?_
    refine wx_iadd dX9_costs_26 ?_
    rw [hzn, show (2 : Int32) = nI 2 from rfl, nI_add]
    refine wx_icmp_ne (tgt := 34) dX9_costs_27 (by decide) (fun h27 => ?_) (fun h27 => ?_)
    · exact absurd rfl h27 --end
    · skip
      refine wx_iconst (v := 0) dX9_costs_30 (by decide) ?_
      refine wx_goto (tgt := 36) dX9_costs_31 (by decide) ?_
      refine wx_istore dX9_costs_36 (Nat.le_of_ble_eq_true rfl) rfl ?_
      refine wx_iconst (v := 0) dX9_costs_38 (by decide) ?_
      refine wx_istore dX9_costs_39 (Nat.le_of_ble_eq_true rfl) rfl ?_
      refine wx_iload dX9_costs_41 rfl ?_
      refine wx_aload_n (i := 0) dX9_costs_43 rfl rfl ?_
      refine wx_iload_n (i := 2) dX9_costs_44 rfl rfl ?_
      refine wx_V1 dX9_costs_45 zPV_X9_most zLk_X9_182 rfl (Nat.le_of_ble_eq_true rfl) (Nat.le_of_ble_eq_true rfl) (Or.inr rfl) ?_
      refine s_X9_most hzn hn.2 (by omega) ?_
      refine wx_r1 ?_
      refine wx_icmp_gt (tgt := 119) dX9_costs_48 (by decide) (fun h48 => ?_) (fun h48 => ?_)
      · rw [show zMo n (n + 2) = 0 from if_neg (by omega)] at h48
        exact absurd (show nI 0 < nI 0 from h48) (nI_nlt (by omega) (by omega)) --end
      · skip
        refine wx_iload_n (i := 2) dX9_costs_51 rfl rfl ?_
        refine wx_aload_n (i := 0) dX9_costs_52 rfl rfl ?_
        refine wx_getIG (k := 128) dX9_costs_53 zF_X9_7 zKo_128 rfl (Nat.le_of_ble_eq_true rfl) ?_
        refine wx_iconst (v := 2) dX9_costs_56 (by decide) ?_
        refine wx_iadd dX9_costs_57 ?_
        rw [hzn, show (2 : Int32) = nI 2 from rfl, nI_add]
        refine wx_icmp_ge (tgt := 119) dX9_costs_58 (by decide) (fun h58 => ?_) (fun h58 => ?_)
        · skip
          rw [show zMko n h p r (n + 2 - (n + 2)) s = 0 by rw [Nat.sub_self]; rfl] at hK
          exact hK _ _
        · exact absurd (nI_le (Nat.le_refl _) (by omega)) h58 --end
  · skip
    refine wx_iload_n (i := 2) dX9_costs_20 rfl rfl ?_
    refine wx_aload_n (i := 0) dX9_costs_21 rfl rfl ?_
    refine wx_getIG (k := 128) dX9_costs_22 zF_X9_7 zKo_128 rfl (Nat.le_of_ble_eq_true rfl) ?_
    refine wx_iconst (v := 2) dX9_costs_25 (by decide) ?_
    refine wx_iadd dX9_costs_26 ?_
    rw [hzn, show (2 : Int32) = nI 2 from rfl, nI_add]
    refine wx_icmp_ne (tgt := 34) dX9_costs_27 (by decide) (fun h27 => ?_) (fun h27 => ?_)
    · skip
      refine wx_ldc dX9_costs_34 zKc_X9_162 ?_
      refine wx_istore dX9_costs_36 (Nat.le_of_ble_eq_true rfl) rfl ?_
      refine wx_iconst (v := 0) dX9_costs_38 (by decide) ?_
      refine wx_istore dX9_costs_39 (Nat.le_of_ble_eq_true rfl) rfl ?_
      exact lp_kc hzn hn ht hh hp hr (by omega) hs (hT (by omega)) hK (zMo n z + 1) 0 _ (by omega)
    · rw [nI_eq (by omega) (by omega)] at h27
      exact absurd h27 hq --end
theorem lp_ks {d : Nat} {K : List Value → zS → Prop} {mm : zM} {n t : Nat} {h p : Nat → Int32} {r : Int32} (hzn : mm 128 0 = nI n) (hn : 4 ≤ n ∧ n ≤ 16) (ht : t < 3) (hh : mm 129 = h) (hp : zPm mm t = p) (hr : mm 128 13 = r) {z : Nat} (hz : z ≤ n + 2) (hK : ∀ (m2 : zM) (y3 y4 y5 y6 : Option Value), zFko mm m2 → zKc n h p r m2 z → wx (d + 2) mX9_costs 139 [some (.ref 128), some (.int (nI t)), some (.int (nI z)), y3, y4, y5, y6] [] (zG m2) K)  : ∀ (c i : Nat) (m1 : zM) (y4 y5 y6 : Option Value), i + c = 1296 → (zFko mm m1) → (zKb n h p r m1 z i) → wx (d + 2) mX9_costs 13 [some (.ref 128), some (.int (nI t)), some (.int (nI z)), some (.int (nI i)), y4, y5, y6] [] (zG m1) K := by
  intro c
  induction c with
  | zero =>
    intro i m1 y4 y5 y6 hi hf hT
    obtain rfl : i = 1296 := by omega
    refine wx_iload_n (i := 3) dX9_costs_13 rfl rfl ?_
    refine wx_sipush (v := 1296) dX9_costs_14 (by decide) ?_
    refine wx_icmp_ge (tgt := 139) dX9_costs_17 (by decide) (fun h17 => ?_) (fun h17 => ?_)
    · skip
      exact hK m1 _ _ _ _ hf (zKb_e hT)
    · exact absurd (show nI 1296 ≤ nI 1296 from nI_le (by omega) (by omega)) h17 --end
  | succ c ih =>
    intro i m1 y4 y5 y6 hi hf hT
    refine wx_iload_n (i := 3) dX9_costs_13 rfl rfl ?_
    refine wx_sipush (v := 1296) dX9_costs_14 (by decide) ?_
    refine wx_icmp_ge (tgt := 139) dX9_costs_17 (by decide) (fun h17 => ?_) (fun h17 => ?_)
    · exact absurd (show nI 1296 ≤ nI i from h17) (nI_ge (by omega) (by omega)) --end
    · skip
      refine lp_kcell (by rw [hf 128 (by decide)]; exact hzn) hn ht (by rw [hf 129 (by decide)]; exact hh) (by rw [← hp]; unfold zPm; rw [hf 135 (by decide)]) (by rw [hf 128 (by decide)]; exact hr) hz (show i < 1296 by omega) (fun _ => hT.1) (fun y5 y6 => ?_)
      refine wx_aload_n (i := 0) dX9_costs_119 rfl rfl ?_
      refine wx_getRG (k := 128) (t := 146) dX9_costs_120 zF_X9_80 zKo_128 rfl (Nat.le_of_ble_eq_true rfl) zRf_128_28 ?_
      refine wx_sipush (v := 1296) dX9_costs_123 (by decide) ?_
      refine wx_iload_n (i := 2) dX9_costs_126 rfl rfl ?_
      refine wx_imul dX9_costs_127 ?_
      refine wx_iload_n (i := 3) dX9_costs_128 rfl rfl ?_
      refine wx_iadd dX9_costs_129 ?_
      refine wx_iload dX9_costs_130 rfl ?_
      refine wx_iastG (k := 146) (j := 1296 * z + i) dX9_costs_132 zK_146 (Nat.le_of_ble_eq_true rfl) ?_ ?_ ?_
      · (rw [show (1296 : Int32) = nI 1296 from rfl, nI_mul, nI_add])
      · exact ⟨by omega, by decide⟩
      refine wx_inc (c := 1) dX9_costs_133 rfl (by decide) (Nat.le_of_ble_eq_true rfl) rfl ?_
      refine wx_goto (tgt := 13) dX9_costs_136 (by decide) ?_
      rw [nI_1]
      exact ih (i + 1) _ _ _ _ (by omega) (fun c w => (zU_ne w).trans (hf c w)) (zKb_s hT (by omega))
theorem lp_kz {d : Nat} {K : List Value → zS → Prop} {mm : zM} {n t : Nat} {h p : Nat → Int32} {r : Int32} (hzn : mm 128 0 = nI n) (hn : 4 ≤ n ∧ n ≤ 16) (ht : t < 3) (hh : mm 129 = h) (hp : zPm mm t = p) (hr : mm 128 13 = r) (hK : ∀ m2 : zM, zFko mm m2 → zKc n h p r m2 0 → K [] (zG m2))  : ∀ (c i : Nat) (m1 : zM) (y3 y4 y5 y6 : Option Value), i + c = (n + 3) → (zFko mm m1) → (zKc n h p r m1 c) → wx (d + 2) mX9_costs 7 [some (.ref 128), some (.int (nI t)), some (.int (zi ((c : Int) - 1))), y3, y4, y5, y6] [] (zG m1) K := by
  intro c
  induction c with
  | zero =>
    intro i m1 y3 y4 y5 y6 hi hf hT
    obtain rfl : i = (n + 3) := by omega
    refine wx_iload_n (i := 2) dX9_costs_7 rfl rfl ?_
    refine wx_if_lt (tgt := 145) dX9_costs_8 (by decide) (fun h8 => ?_) (fun h8 => ?_)
    · skip
      refine wx_vret dX9_costs_145 rfl (Or.inl rfl) ?_
      exact hK m1 hf hT
    · exact absurd (show zi (((0 : Nat) : Int) - 1) < 0 by rw [zl_0, zi_lt (by omega) (by omega)]; omega) h8 --end
  | succ c ih =>
    intro i m1 y3 y4 y5 y6 hi hf hT
    rw [show (((c + 1 : Nat) : Int) - 1) = (c : Int) by omega]
    refine wx_iload_n (i := 2) dX9_costs_7 rfl rfl ?_
    refine wx_if_lt (tgt := 145) dX9_costs_8 (by decide) (fun h8 => ?_) (fun h8 => ?_)
    · exact absurd h8 (by rw [zl_0, zi_lt (by omega) (by omega)]; omega) --end
    · skip
      refine wx_iconst (v := 0) dX9_costs_11 (by decide) ?_
      refine wx_istore_n (i := 3) dX9_costs_12 rfl (Nat.le_of_ble_eq_true rfl) rfl ?_
      rw [show (0 : Int32) = nI 0 from rfl, show zi (c : Int) = nI c from (zi_nI c).symm]
      refine lp_ks hzn hn ht hh hp hr (show c ≤ n + 2 by omega) (fun m2 y3 y4 y5 y6 hf2 hT2 => ?_) 1296 0 m1 _ _ _ (by omega) hf (zKb_0 hT)
      refine wx_inc (c := (-1)) dX9_costs_139 rfl (by decide) (Nat.le_of_ble_eq_true rfl) rfl ?_
      refine wx_goto (tgt := 7) dX9_costs_142 (by decide) ?_
      rw [show nI c + (-1) = zi ((c : Int) - 1) from by rw [zm_1, zi_nI, zi_add]; rfl]
      exact ih (i + 1) m2 _ _ _ _ (by omega) hf2 hT2
theorem s_X9_costs {d : Nat} {K : List Value → zS → Prop} {mm : zM} {n t : Nat} {h p : Nat → Int32} {r : Int32} (hzn : mm 128 0 = nI n) (hn : 4 ≤ n ∧ n ≤ 16) (ht : t < 3) (hh : mm 129 = h) (hp : zPm mm t = p) (hr : mm 128 13 = r) (hK : ∀ m2 : zM, zFko mm m2 → zKc n h p r m2 0 → K [] (zG m2))  : wm (d + 2) mX9_costs [.ref 128, .int (nI t)] (zG mm) K := by
  refine wm_of2 (L0 := [some (.ref 128), some (.int (nI t)), none, none, none, none, none]) zCm_X9_costs (Or.inl rfl) (Nat.le_of_ble_eq_true rfl) rfl ?_
  refine wx_aload_n (i := 0) dX9_costs_0 rfl rfl ?_
  refine wx_getIG (k := 128) dX9_costs_1 zF_X9_7 zKo_128 rfl (Nat.le_of_ble_eq_true rfl) ?_
  refine wx_iconst (v := 2) dX9_costs_4 (by decide) ?_
  refine wx_iadd dX9_costs_5 ?_
  refine wx_istore_n (i := 2) dX9_costs_6 rfl (Nat.le_of_ble_eq_true rfl) rfl ?_
  rw [hzn, show nI n + 2 = zi (((n + 3 : Nat) : Int) - 1) from by rw [zl_2, zi_nI, zi_add]; exact congrArg zi (by omega)]
  exact lp_kz hzn hn ht hh hp hr hK (n + 3) 0 mm _ _ _ _ (by omega) (fun _ _ => rfl) (fun z s a b => absurd a (by omega))
