/-! plans of the reference: plans -/
def zFpl (mm m2 : zM) : Prop := ∀ c, c ≠ 146 → c ≠ 147 → m2 c = mm c
theorem lp_pw {d : Nat} {K : List Value → zS → Prop} {mm : zM} {n t : Nat} {h p : Nat → Int32} {r : Int32} (hzn : mm 128 0 = nI n) (hn : 4 ≤ n ∧ n ≤ 16) (ht : t < 3) (hh : mm 129 = h) (hp : zPm mm t = p) (hr : mm 128 13 = r) {z s : Nat} {a : Int32} (hz : z < n) (hs : s < 1296) (hT : zKc n h p r mm 0) (hc : zCo n h p r (n + 2 - z) s < 1000) (hK : wx (d + 2) mX9_plans 128 [some (.ref 128), some (.int (nI t)), some (.int (nI s)), some (.int a), some (.int (nI z)), some (.int (nI (zCo n h p r (n + 2 - z) s))), some (.int (nI (zSel n h p r z s)))] [] (zG mm) K) : ∀ (c i : Nat), i + c = zSel n h p r z s → wx (d + 2) mX9_plans 81 [some (.ref 128), some (.int (nI t)), some (.int (nI s)), some (.int a), some (.int (nI z)), some (.int (nI (zCo n h p r (n + 2 - z) s))), some (.int (nI (i)))] [] (zG mm) K := by
  intro c
  induction c with
  | zero =>
    intro i hi
    have hi : i = zSel n h p r z s := by omega
    have h5 := zSel_le n h p r z s
    obtain ⟨k1, k2, k3, k4⟩ := zSel_ok hz hc
    have hmk := zMko_le (n := n) (h := h) (p := p) (r := r) (n + 1 - z) (zNx s i)
    have hl := zLink_m (m := i) hn.2 hz hc
    rw [← hi] at k1 k3 hK
    have hl := hl.mpr k1
    refine wx_aload_n (i := 0) dX9_plans_81 rfl rfl ?_
    refine wx_iload_n (i := 1) dX9_plans_82 rfl rfl ?_
    refine wx_iload dX9_plans_83 rfl ?_
    refine wx_iload_n (i := 2) dX9_plans_85 rfl rfl ?_
    refine wx_iload dX9_plans_86 rfl ?_
    refine wx_V4 dX9_plans_88 zPV_X9_isRight zLk_X9_185 rfl (Nat.le_of_ble_eq_true rfl) (Nat.le_of_ble_eq_true rfl) (Or.inr rfl) ?_
    refine s_X9_isRight hn.2 ht (show z < n + 2 by omega) hs (fun b hb => ?_)
    rw [hh, hp, hr] at hb
    refine wx_r1 ?_
    refine wx_if_eq (tgt := 122) dX9_plans_91 (by decide) (fun h91 => ?_) (fun h91 => ?_)
    · have hno : ¬ zRt h p r z s i := by
        rcases hb with ⟨e, _⟩ | ⟨_, e⟩
        · rw [e] at h91; exact absurd h91 (by decide)
        · exact e
      exact absurd k3 hno --end
    · skip
      refine wx_aload_n (i := 0) dX9_plans_94 rfl rfl ?_
      refine wx_getRG (k := 128) (t := 146) dX9_plans_95 zF_X9_80 zKo_128 rfl (Nat.le_of_ble_eq_true rfl) zRf_128_28 ?_
      refine wx_sipush (v := 1296) dX9_plans_98 (by decide) ?_
      refine wx_iload dX9_plans_101 rfl ?_
      refine wx_iconst (v := 1) dX9_plans_103 (by decide) ?_
      refine wx_iadd dX9_plans_104 ?_
      refine wx_imul dX9_plans_105 ?_
      refine wx_iload_n (i := 2) dX9_plans_106 rfl rfl ?_
      refine wx_iload dX9_plans_107 rfl ?_
      refine wx_S2 dX9_plans_109 zPS_X9_next zLk_X9_189 (Nat.le_of_ble_eq_true rfl) (Or.inr rfl) ?_
      refine s_X9_next hs (show i ≤ 5 by omega) ?_
      refine wx_r1 ?_
      refine wx_iadd dX9_plans_112 ?_
      refine wx_ialdG (k := 146) (j := 1296 * (z + 1) + zNx s i) dX9_plans_113 zK_146 (Nat.le_of_ble_eq_true rfl) ?_ ?_ ?_
      · (rw [nI_1, show (1296 : Int32) = nI 1296 from rfl, nI_mul, nI_add])
      · exact ⟨by have := zNx_lt s i; omega, by decide⟩
      rw [hT (z + 1) (zNx s i) (by omega) (by omega) (zNx_lt s i), show n + 2 - (z + 1) = n + 1 - z by omega]
      refine wx_iload dX9_plans_114 rfl ?_
      refine wx_iadd dX9_plans_116 ?_
      rw [nI_add]
      refine wx_iload dX9_plans_117 rfl ?_
      refine wx_icmp_eq (tgt := 128) dX9_plans_119 (by decide) (fun h119 => ?_) (fun h119 => ?_)
      · exact hK --end
      · rw [nI_eq (by omega) (by omega)] at h119
        exact absurd hl.2 h119 --end
  | succ c ih =>
    intro i hi
    have h5 := zSel_le n h p r z s
    obtain ⟨k1, k2, k3, k4⟩ := zSel_ok hz hc
    have hmk := zMko_le (n := n) (h := h) (p := p) (r := r) (n + 1 - z) (zNx s i)
    have hl := zLink_m (m := i) hn.2 hz hc
    have k2i := k2 i (by omega)
    refine wx_aload_n (i := 0) dX9_plans_81 rfl rfl ?_
    refine wx_iload_n (i := 1) dX9_plans_82 rfl rfl ?_
    refine wx_iload dX9_plans_83 rfl ?_
    refine wx_iload_n (i := 2) dX9_plans_85 rfl rfl ?_
    refine wx_iload dX9_plans_86 rfl ?_
    refine wx_V4 dX9_plans_88 zPV_X9_isRight zLk_X9_185 rfl (Nat.le_of_ble_eq_true rfl) (Nat.le_of_ble_eq_true rfl) (Or.inr rfl) ?_
    refine s_X9_isRight hn.2 ht (show z < n + 2 by omega) hs (fun b hb => ?_)
    rw [hh, hp, hr] at hb
    refine wx_r1 ?_
    refine wx_if_eq (tgt := 122) dX9_plans_91 (by decide) (fun h91 => ?_) (fun h91 => ?_)
    · skip
      refine wx_inc (c := 1) dX9_plans_122 rfl (by decide) (Nat.le_of_ble_eq_true rfl) rfl ?_
      refine wx_goto (tgt := 81) dX9_plans_125 (by decide) ?_
      rw [nI_1]
      exact ih (i + 1) (by omega)
    · have hye : zRt h p r z s i := by
        rcases hb with ⟨_, e⟩ | ⟨e, _⟩
        · exact e
        · exact absurd e h91
      refine wx_aload_n (i := 0) dX9_plans_94 rfl rfl ?_
      refine wx_getRG (k := 128) (t := 146) dX9_plans_95 zF_X9_80 zKo_128 rfl (Nat.le_of_ble_eq_true rfl) zRf_128_28 ?_
      refine wx_sipush (v := 1296) dX9_plans_98 (by decide) ?_
      refine wx_iload dX9_plans_101 rfl ?_
      refine wx_iconst (v := 1) dX9_plans_103 (by decide) ?_
      refine wx_iadd dX9_plans_104 ?_
      refine wx_imul dX9_plans_105 ?_
      refine wx_iload_n (i := 2) dX9_plans_106 rfl rfl ?_
      refine wx_iload dX9_plans_107 rfl ?_
      refine wx_S2 dX9_plans_109 zPS_X9_next zLk_X9_189 (Nat.le_of_ble_eq_true rfl) (Or.inr rfl) ?_
      refine s_X9_next hs (show i ≤ 5 by omega) ?_
      refine wx_r1 ?_
      refine wx_iadd dX9_plans_112 ?_
      refine wx_ialdG (k := 146) (j := 1296 * (z + 1) + zNx s i) dX9_plans_113 zK_146 (Nat.le_of_ble_eq_true rfl) ?_ ?_ ?_
      · (rw [nI_1, show (1296 : Int32) = nI 1296 from rfl, nI_mul, nI_add])
      · exact ⟨by have := zNx_lt s i; omega, by decide⟩
      rw [hT (z + 1) (zNx s i) (by omega) (by omega) (zNx_lt s i), show n + 2 - (z + 1) = n + 1 - z by omega]
      refine wx_iload dX9_plans_114 rfl ?_
      refine wx_iadd dX9_plans_116 ?_
      rw [nI_add]
      refine wx_iload dX9_plans_117 rfl ?_
      refine wx_icmp_eq (tgt := 128) dX9_plans_119 (by decide) (fun h119 => ?_) (fun h119 => ?_)
      · rw [nI_eq (by omega) (by omega)] at h119
        exact absurd (hl.mp ⟨hye, h119⟩) (by omega) --end
      · skip
        refine wx_inc (c := 1) dX9_plans_122 rfl (by decide) (Nat.le_of_ble_eq_true rfl) rfl ?_
        refine wx_goto (tgt := 81) dX9_plans_125 (by decide) ?_
        rw [nI_1]
        exact ih (i + 1) (by omega)
theorem lp_po {d : Nat} {K : List Value → zS → Prop} {mm : zM} {n t : Nat} {h p : Nat → Int32} {r : Int32} (hzn : mm 128 0 = nI n) (hn : 4 ≤ n ∧ n ≤ 16) (ht : t < 3) (hh : mm 129 = h) (hp : zPm mm t = p) (hr : mm 128 13 = r) (hc : zCo n h p r (n + 2) 0 < 1000) (hK : ∀ m2 : zM, zFpl mm m2 → (∀ z, z < n → m2 147 z = nI (zPmi n h p r z)) → K [.int (nI (zCo n h p r (n + 2) 0))] (zG m2))  : ∀ (c i : Nat) (m1 : zM) (a : Int32) (y5 y6 : Option Value), i + c = n → (zFpl mm m1) → (zKc n h p r m1 0) → (∀ z, z < i → m1 147 z = nI (zPmi n h p r z)) → (1 ≤ i → a = nI (zCo n h p r (n + 2) 0)) → wx (d + 2) mX9_plans 33 [some (.ref 128), some (.int (nI t)), some (.int (nI (zPst n h p r i))), some (.int a), some (.int (nI i)), y5, y6] [] (zG m1) K := by
  intro c
  induction c with
  | zero =>
    intro i m1 a y5 y6 hi hf hT hm ha
    obtain rfl : i = n := by omega
    refine wx_iload dX9_plans_33 rfl ?_
    refine wx_aload_n (i := 0) dX9_plans_35 rfl rfl ?_
    refine wx_getIG (k := 128) dX9_plans_36 zF_X9_7 zKo_128 rfl (Nat.le_of_ble_eq_true rfl) ?_
    refine wx_icmp_ge (tgt := 150) dX9_plans_39 (by decide) (fun h39 => ?_) (fun h39 => ?_)
    · skip
      refine wx_iload_n (i := 3) dX9_plans_150 rfl rfl ?_
      refine wx_iret dX9_plans_151 rfl rfl (Or.inl rfl) ?_
      exact zki (hK m1 hf hm) (ha (by omega)).symm
    · exact absurd (show m1 128 0 ≤ nI i by rw [hf 128 (by decide) (by decide), hzn]; exact nI_le (Nat.le_refl _) (by omega)) h39 --end
  | succ c ih =>
    intro i m1 a y5 y6 hi hf hT hm ha
    have hci := zPst_ok hc i (by omega)
    have hmi := (zLink_c (h := h) (p := p) (r := r) hn.2 (n + 2 - i) (by omega) (zPst n h p r i)).2 hci
    refine wx_iload dX9_plans_33 rfl ?_
    refine wx_aload_n (i := 0) dX9_plans_35 rfl rfl ?_
    refine wx_getIG (k := 128) dX9_plans_36 zF_X9_7 zKo_128 rfl (Nat.le_of_ble_eq_true rfl) ?_
    refine wx_icmp_ge (tgt := 150) dX9_plans_39 (by decide) (fun h39 => ?_) (fun h39 => ?_)
    · exact absurd (show m1 128 0 ≤ nI i from h39) (by rw [hf 128 (by decide) (by decide), hzn]; exact nI_ge (by omega) (by omega)) --end
    · skip
      refine wx_aload_n (i := 0) dX9_plans_42 rfl rfl ?_
      refine wx_getRG (k := 128) (t := 146) dX9_plans_43 zF_X9_80 zKo_128 rfl (Nat.le_of_ble_eq_true rfl) zRf_128_28 ?_
      refine wx_sipush (v := 1296) dX9_plans_46 (by decide) ?_
      refine wx_iload dX9_plans_49 rfl ?_
      refine wx_imul dX9_plans_51 ?_
      refine wx_iload_n (i := 2) dX9_plans_52 rfl rfl ?_
      refine wx_iadd dX9_plans_53 ?_
      refine wx_ialdG (k := 146) (j := 1296 * i + zPst n h p r i) dX9_plans_54 zK_146 (Nat.le_of_ble_eq_true rfl) ?_ ?_ ?_
      · (rw [show (1296 : Int32) = nI 1296 from rfl, nI_mul, nI_add])
      · exact ⟨by have := zPst_lt n h p r i; omega, by decide⟩
      rw [hT i (zPst n h p r i) (by omega) (by omega) (zPst_lt n h p r i), hmi]
      refine wx_istore dX9_plans_55 (Nat.le_of_ble_eq_true rfl) rfl ?_
      refine wx_iload dX9_plans_57 rfl ?_
      refine wx_if_ne (tgt := 67) dX9_plans_59 (by decide) (fun h59 => ?_) (fun h59 => ?_)
      · have hi0 : i ≠ 0 := fun e => h59 (by rw [e]; rfl)
        have ha2 := ha (by omega)
        refine wx_iload_n (i := 3) dX9_plans_67 rfl rfl ?_
        refine wx_istore_n (i := 3) dX9_plans_68 rfl (Nat.le_of_ble_eq_true rfl) rfl ?_
        refine wx_iload_n (i := 3) dX9_plans_69 rfl rfl ?_
        refine wx_ldc dX9_plans_70 zKc_X9_162 ?_
        refine wx_icmp_lt (tgt := 78) dX9_plans_72 (by decide) (fun h72 => ?_) (fun h72 => ?_)
        · skip
          refine wx_iconst (v := 0) dX9_plans_78 (by decide) ?_
          refine wx_istore dX9_plans_79 (Nat.le_of_ble_eq_true rfl) rfl ?_
          rw [show (0 : Int32) = nI 0 from rfl]
          refine lp_pw (by rw [hf 128 (by decide) (by decide)]; exact hzn) hn ht (by rw [hf 129 (by decide) (by decide)]; exact hh) (by rw [← hp]; unfold zPm; rw [hf 135 (by decide) (by decide)]) (by rw [hf 128 (by decide) (by decide)]; exact hr) (show i < n by omega) (zPst_lt n h p r i) hT hci ?_ (zSel n h p r i (zPst n h p r i)) 0 (by omega)
          refine wx_aload_n (i := 0) dX9_plans_128 rfl rfl ?_
          refine wx_getRG (k := 128) (t := 147) dX9_plans_129 zF_X9_83 zKo_128 rfl (Nat.le_of_ble_eq_true rfl) zRf_128_29 ?_
          refine wx_iload dX9_plans_132 rfl ?_
          refine wx_iload dX9_plans_134 rfl ?_
          refine wx_iastG (k := 147) dX9_plans_136 zK_147 (Nat.le_of_ble_eq_true rfl) rfl ?_ ?_
          · exact ⟨by omega, by decide⟩
          refine wx_iload_n (i := 2) dX9_plans_137 rfl rfl ?_
          refine wx_iload dX9_plans_138 rfl ?_
          refine wx_S2 dX9_plans_140 zPS_X9_next zLk_X9_189 (Nat.le_of_ble_eq_true rfl) (Or.inr rfl) ?_
          refine s_X9_next (zPst_lt n h p r i) (zSel_le n h p r i _) ?_
          refine wx_r1 ?_
          refine wx_istore_n (i := 2) dX9_plans_143 rfl (Nat.le_of_ble_eq_true rfl) rfl ?_
          refine wx_inc (c := 1) dX9_plans_144 rfl (by decide) (Nat.le_of_ble_eq_true rfl) rfl ?_
          refine wx_goto (tgt := 33) dX9_plans_147 (by decide) ?_
          rw [nI_1]
          exact ih (i + 1) _ _ _ _ (by omega) (fun c u1 u2 => (zU_ne u2).trans (hf c u1 u2)) (fun z s b1 b2 b3 => by rw [zU_ne (by decide)]; exact hT z s b1 b2 b3) (zU_lt (f := fun z => nI (zPmi n h p r z)) hm rfl) (fun _ => ha2)
        · first | exact absurd (show a < 1000000 by rw [ha2, zl_1000000, zi_nI, zi_lt (by omega) (by omega)]; omega) h72 | exact absurd (show nI (zCo n h p r (n + 2 - i) (zPst n h p r i)) < 1000000 by rw [zl_1000000, zi_nI, zi_lt (by omega) (by omega)]; omega) h72 --end
      · have hi0 : i = 0 := by
          rw [show (0 : Int32) = nI 0 from rfl, nI_eq (by omega) (by omega)] at h59
          exact h59
        have ha2 : nI (zCo n h p r (n + 2 - i) (zPst n h p r i)) = nI (zCo n h p r (n + 2) 0) := by rw [hi0]; rfl
        refine wx_iload dX9_plans_62 rfl ?_
        refine wx_goto (tgt := 68) dX9_plans_64 (by decide) ?_
        refine wx_istore_n (i := 3) dX9_plans_68 rfl (Nat.le_of_ble_eq_true rfl) rfl ?_
        refine wx_iload_n (i := 3) dX9_plans_69 rfl rfl ?_
        refine wx_ldc dX9_plans_70 zKc_X9_162 ?_
        refine wx_icmp_lt (tgt := 78) dX9_plans_72 (by decide) (fun h72 => ?_) (fun h72 => ?_)
        · skip
          refine wx_iconst (v := 0) dX9_plans_78 (by decide) ?_
          refine wx_istore dX9_plans_79 (Nat.le_of_ble_eq_true rfl) rfl ?_
          rw [show (0 : Int32) = nI 0 from rfl]
          refine lp_pw (by rw [hf 128 (by decide) (by decide)]; exact hzn) hn ht (by rw [hf 129 (by decide) (by decide)]; exact hh) (by rw [← hp]; unfold zPm; rw [hf 135 (by decide) (by decide)]) (by rw [hf 128 (by decide) (by decide)]; exact hr) (show i < n by omega) (zPst_lt n h p r i) hT hci ?_ (zSel n h p r i (zPst n h p r i)) 0 (by omega)
          refine wx_aload_n (i := 0) dX9_plans_128 rfl rfl ?_
          refine wx_getRG (k := 128) (t := 147) dX9_plans_129 zF_X9_83 zKo_128 rfl (Nat.le_of_ble_eq_true rfl) zRf_128_29 ?_
          refine wx_iload dX9_plans_132 rfl ?_
          refine wx_iload dX9_plans_134 rfl ?_
          refine wx_iastG (k := 147) dX9_plans_136 zK_147 (Nat.le_of_ble_eq_true rfl) rfl ?_ ?_
          · exact ⟨by omega, by decide⟩
          refine wx_iload_n (i := 2) dX9_plans_137 rfl rfl ?_
          refine wx_iload dX9_plans_138 rfl ?_
          refine wx_S2 dX9_plans_140 zPS_X9_next zLk_X9_189 (Nat.le_of_ble_eq_true rfl) (Or.inr rfl) ?_
          refine s_X9_next (zPst_lt n h p r i) (zSel_le n h p r i _) ?_
          refine wx_r1 ?_
          refine wx_istore_n (i := 2) dX9_plans_143 rfl (Nat.le_of_ble_eq_true rfl) rfl ?_
          refine wx_inc (c := 1) dX9_plans_144 rfl (by decide) (Nat.le_of_ble_eq_true rfl) rfl ?_
          refine wx_goto (tgt := 33) dX9_plans_147 (by decide) ?_
          rw [nI_1]
          exact ih (i + 1) _ _ _ _ (by omega) (fun c u1 u2 => (zU_ne u2).trans (hf c u1 u2)) (fun z s b1 b2 b3 => by rw [zU_ne (by decide)]; exact hT z s b1 b2 b3) (zU_lt (f := fun z => nI (zPmi n h p r z)) hm rfl) (fun _ => ha2)
        · first | exact absurd (show a < 1000000 by rw [ha2, zl_1000000, zi_nI, zi_lt (by omega) (by omega)]; omega) h72 | exact absurd (show nI (zCo n h p r (n + 2 - i) (zPst n h p r i)) < 1000000 by rw [zl_1000000, zi_nI, zi_lt (by omega) (by omega)]; omega) h72 --end
theorem lp_pz {d : Nat} {K : List Value → zS → Prop} {mm : zM} {t : Nat} (hK : ∀ m2 : zM, (∀ c, c ≠ 147 → m2 c = mm c) → wx (d + 2) mX9_plans 21 [some (.ref 128), some (.int (nI t)), some (.int 16), none, none, none, none] [] (zG m2) K)  : ∀ (c i : Nat) (m1 : zM), i + c = 16 → (∀ c, c ≠ 147 → m1 c = mm c) → wx (d + 2) mX9_plans 2 [some (.ref 128), some (.int (nI t)), some (.int (nI i)), none, none, none, none] [] (zG m1) K := by
  intro c
  induction c with
  | zero =>
    intro i m1 hi hf
    obtain rfl : i = 16 := by omega
    refine wx_iload_n (i := 2) dX9_plans_2 rfl rfl ?_
    refine wx_bipush (v := 16) dX9_plans_3 (by decide) ?_
    refine wx_icmp_ge (tgt := 21) dX9_plans_5 (by decide) (fun h5 => ?_) (fun h5 => ?_)
    · skip
      exact hK m1 hf
    · exact absurd (show nI 16 ≤ nI 16 from nI_le (by omega) (by omega)) h5 --end
  | succ c ih =>
    intro i m1 hi hf
    refine wx_iload_n (i := 2) dX9_plans_2 rfl rfl ?_
    refine wx_bipush (v := 16) dX9_plans_3 (by decide) ?_
    refine wx_icmp_ge (tgt := 21) dX9_plans_5 (by decide) (fun h5 => ?_) (fun h5 => ?_)
    · exact absurd (show nI 16 ≤ nI i from h5) (nI_ge (by omega) (by omega)) --end
    · skip
      refine wx_aload_n (i := 0) dX9_plans_8 rfl rfl ?_
      refine wx_getRG (k := 128) (t := 147) dX9_plans_9 zF_X9_83 zKo_128 rfl (Nat.le_of_ble_eq_true rfl) zRf_128_29 ?_
      refine wx_iload_n (i := 2) dX9_plans_12 rfl rfl ?_
      refine wx_iconst (v := 0) dX9_plans_13 (by decide) ?_
      refine wx_iastG (k := 147) dX9_plans_14 zK_147 (Nat.le_of_ble_eq_true rfl) rfl ?_ ?_
      · exact ⟨by omega, by decide⟩
      refine wx_inc (c := 1) dX9_plans_15 rfl (by decide) (Nat.le_of_ble_eq_true rfl) rfl ?_
      refine wx_goto (tgt := 2) dX9_plans_18 (by decide) ?_
      rw [nI_1]
      exact ih (i + 1) _ (by omega) (fun c w => (zU_ne w).trans (hf c w))
theorem s_X9_plans {d : Nat} {K : List Value → zS → Prop} {mm : zM} {n t : Nat} {h p : Nat → Int32} {r : Int32} (hzn : mm 128 0 = nI n) (hn : 4 ≤ n ∧ n ≤ 16) (ht : t < 3) (hh : mm 129 = h) (hp : zPm mm t = p) (hr : mm 128 13 = r) (hK : ∀ m2 : zM, zFpl mm m2 → (zCo n h p r (n + 2) 0 < 1000 → ∀ z, z < n → m2 147 z = nI (zPmi n h p r z)) → K [.int (if zCo n h p r (n + 2) 0 < 1000 then nI (zCo n h p r (n + 2) 0) else 1000000)] (zG m2))  : wm (d + 3) mX9_plans [.ref 128, .int (nI t)] (zG mm) K := by
  refine wm_of2 (L0 := [some (.ref 128), some (.int (nI t)), none, none, none, none, none]) zCm_X9_plans (Or.inl rfl) (Nat.le_of_ble_eq_true rfl) rfl ?_
  refine wx_iconst (v := 0) dX9_plans_0 (by decide) ?_
  refine wx_istore_n (i := 2) dX9_plans_1 rfl (Nat.le_of_ble_eq_true rfl) rfl ?_
  refine lp_pz (d := d + 1) (fun mZ hfz => ?_) 16 0 mm (by omega) (fun _ _ => rfl)
  refine wx_iconst (v := 0) dX9_plans_21 (by decide) ?_
  refine wx_istore_n (i := 2) dX9_plans_22 rfl (Nat.le_of_ble_eq_true rfl) rfl ?_
  refine wx_iconst (v := (-1)) dX9_plans_23 (by decide) ?_
  refine wx_istore_n (i := 3) dX9_plans_24 rfl (Nat.le_of_ble_eq_true rfl) rfl ?_
  refine wx_aload_n (i := 0) dX9_plans_25 rfl rfl ?_
  refine wx_iload_n (i := 1) dX9_plans_26 rfl rfl ?_
  refine wx_V1 dX9_plans_27 zPV_X9_costs zLk_X9_192 rfl (Nat.le_of_ble_eq_true rfl) (Nat.le_of_ble_eq_true rfl) (Or.inr rfl) ?_
  refine s_X9_costs (n := n) (h := h) (p := p) (r := r) (by rw [hfz 128 (by decide)]; exact hzn) hn ht (by rw [hfz 129 (by decide)]; exact hh) (by rw [← hp]; unfold zPm; rw [hfz 135 (by decide)]) (by rw [hfz 128 (by decide)]; exact hr) (fun mB hfk hT => ?_)
  have hfl : zFpl mm mB := fun c u1 u2 => (hfk c u1).trans (hfz c u2)
  refine wx_r0 ?_
  refine wx_iconst (v := 0) dX9_plans_30 (by decide) ?_
  refine wx_istore dX9_plans_31 (Nat.le_of_ble_eq_true rfl) rfl ?_
  by_cases hc : zCo n h p r (n + 2) 0 < 1000
  · exact lp_po hzn hn ht hh hp hr hc (fun m2 a b => zki (hK m2 a (fun _ => b)) (if_pos hc)) n 0 mB _ _ _ (by omega) hfl hT (fun z w => absurd w (Nat.not_lt_zero z)) (fun w => absurd w (by omega))
  · have he : mB 146 0 = 1000000 := by
      have h1 := hT 0 0 (by omega) (by omega) (by omega)
      have h2 := zMko_le (n := n) (h := h) (p := p) (r := r) (n + 2) 0
      have h3 := (zLink_c (h := h) (p := p) (r := r) hn.2 (n + 2) (by omega) 0).1
      have h4 : zMko n h p r (n + 2) 0 = 1000000 := by
        by_cases q : zMko n h p r (n + 2) 0 < 1000000
        · have := h3 q; omega
        · omega
      rw [show n + 2 - 0 = n + 2 from rfl, h4] at h1
      exact h1
    refine wx_iload dX9_plans_33 rfl ?_
    refine wx_aload_n (i := 0) dX9_plans_35 rfl rfl ?_
    refine wx_getIG (k := 128) dX9_plans_36 zF_X9_7 zKo_128 rfl (Nat.le_of_ble_eq_true rfl) ?_
    refine wx_icmp_ge (tgt := 150) dX9_plans_39 (by decide) (fun h39 => ?_) (fun h39 => ?_)
    · exact absurd (show mB 128 0 ≤ nI 0 from h39) (by rw [hfl 128 (by decide) (by decide), hzn]; exact nI_ge (by omega) (by omega)) --end
    · skip
      refine wx_aload_n (i := 0) dX9_plans_42 rfl rfl ?_
      refine wx_getRG (k := 128) (t := 146) dX9_plans_43 zF_X9_80 zKo_128 rfl (Nat.le_of_ble_eq_true rfl) zRf_128_28 ?_
      refine wx_sipush (v := 1296) dX9_plans_46 (by decide) ?_
      refine wx_iload dX9_plans_49 rfl ?_
      refine wx_imul dX9_plans_51 ?_
      refine wx_iload_n (i := 2) dX9_plans_52 rfl rfl ?_
      refine wx_iadd dX9_plans_53 ?_
      refine wx_ialdG (k := 146) (j := 0) dX9_plans_54 zK_146 (Nat.le_of_ble_eq_true rfl) rfl ?_ ?_
      · exact ⟨by omega, by decide⟩
      rw [show mB 146 0 = 1000000 from he]
      refine wx_istore dX9_plans_55 (Nat.le_of_ble_eq_true rfl) rfl ?_
      refine wx_iload dX9_plans_57 rfl ?_
      refine wx_if_ne (tgt := 67) dX9_plans_59 (by decide) (fun h59 => ?_) (fun h59 => ?_)
      · exact absurd rfl h59 --end
      · skip
        refine wx_iload dX9_plans_62 rfl ?_
        refine wx_goto (tgt := 68) dX9_plans_64 (by decide) ?_
        refine wx_istore_n (i := 3) dX9_plans_68 rfl (Nat.le_of_ble_eq_true rfl) rfl ?_
        refine wx_iload_n (i := 3) dX9_plans_69 rfl rfl ?_
        refine wx_ldc dX9_plans_70 zKc_X9_162 ?_
        refine wx_icmp_lt (tgt := 78) dX9_plans_72 (by decide) (fun h72 => ?_) (fun h72 => ?_)
        · exact absurd h72 (by decide) --end
        · skip
          refine wx_ldc dX9_plans_75 zKc_X9_162 ?_
          refine wx_iret dX9_plans_77 rfl rfl (Or.inl rfl) ?_
          exact zki (hK mB hfl (fun w => absurd w hc)) (if_neg hc)
