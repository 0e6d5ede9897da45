/-! right of the reference -/
def zFca (mm m2 : zM) : Prop := ∀ c, c ≠ 148 → m2 c = mm c
theorem lp_rm {d : Nat} {K : List Value → zS → Prop} {mm : zM} {n t : Nat} {h p : Nat → Int32} {r : Int32} (hzn : mm 128 0 = nI n) (hn : 4 ≤ n ∧ n ≤ 16) (ht : t < 3) (hh : mm 129 = h) (hp : zPm mm t = p) (hr : mm 128 13 = r) {z x : Nat} {A : Nat → Prop} (hz : z < n + 2) (hx : x ≤ 1) (hAs : ∀ s, A s → s < 1296) {s : Nat} (hs : s < 1296) (hK : ∀ (m2 : zM) (v : Int32) (y : Option Value), (zFca mm m2) → (∀ s, s < 1296 → (m2 148 (1296 * x + s) ≠ 0 ↔ A s)) → (∀ s2, s2 < 1296 → (m2 148 (1296 * (1 - x) + s2) ≠ 0 ↔ zRch n h p r z A (s + 1) 0 s2)) → ((v ≠ 0 ↔ ∃ s2, zRch n h p r z A (s + 1) 0 s2)) → wx (d + 2) mX9_right 173 [some (.ref 128), some (.int (nI t)), some (.int (nI z)), some (.int (nI (1296 * x))), some (.int (nI (1296 * (1 - x)))), some (.int v), some (.int (nI s)), y] [] (zG m2) K)  : ∀ (c i : Nat) (m1 : zM) (v : Int32), i + c = (zMo n z + 1) → (zFca mm m1) → (∀ s, s < 1296 → (m1 148 (1296 * x + s) ≠ 0 ↔ A s)) → (∀ s2, s2 < 1296 → (m1 148 (1296 * (1 - x) + s2) ≠ 0 ↔ zRch n h p r z A s i s2)) → ((v ≠ 0 ↔ ∃ s2, zRch n h p r z A s i s2)) → wx (d + 2) mX9_right 113 [some (.ref 128), some (.int (nI t)), some (.int (nI z)), some (.int (nI (1296 * x))), some (.int (nI (1296 * (1 - x)))), some (.int v), some (.int (nI s)), some (.int (nI i))] [] (zG m1) K := by
  intro c
  induction c with
  | zero =>
    intro i m1 v hi hf hA hB hv
    obtain rfl : i = (zMo n z + 1) := by omega
    have hmo := zMo_le n z
    refine wx_iload dX9_right_113 rfl ?_
    refine wx_aload_n (i := 0) dX9_right_115 rfl rfl ?_
    refine wx_iload_n (i := 2) dX9_right_116 rfl rfl ?_
    refine wx_V1 dX9_right_117 zPV_X9_most zLk_X9_182 rfl (Nat.le_of_ble_eq_true rfl) (Nat.le_of_ble_eq_true rfl) (Or.inr rfl) ?_
    refine s_X9_most (by rw [hf 128 (by decide)]; exact hzn) hn.2 (by omega) ?_
    refine wx_r1 ?_
    refine wx_icmp_gt (tgt := 173) dX9_right_120 (by decide) (fun h120 => ?_) (fun h120 => ?_)
    · skip
      exact hK m1 v _ hf hA (fun s2 w => (hB s2 w).trans zRch_e) (hv.trans ⟨fun ⟨a, b⟩ => ⟨a, zRch_e.mp b⟩, fun ⟨a, b⟩ => ⟨a, zRch_e.mpr b⟩⟩)
    · exact absurd (nI_lt (Nat.lt_succ_self _) (by omega)) h120 --end
  | succ c ih =>
    intro i m1 v hi hf hA hB hv
    have hmo := zMo_le n z
    refine wx_iload dX9_right_113 rfl ?_
    refine wx_aload_n (i := 0) dX9_right_115 rfl rfl ?_
    refine wx_iload_n (i := 2) dX9_right_116 rfl rfl ?_
    refine wx_V1 dX9_right_117 zPV_X9_most zLk_X9_182 rfl (Nat.le_of_ble_eq_true rfl) (Nat.le_of_ble_eq_true rfl) (Or.inr rfl) ?_
    refine s_X9_most (by rw [hf 128 (by decide)]; exact hzn) hn.2 (by omega) ?_
    refine wx_r1 ?_
    refine wx_icmp_gt (tgt := 173) dX9_right_120 (by decide) (fun h120 => ?_) (fun h120 => ?_)
    · exact absurd h120 (nI_nlt (by omega) (by omega)) --end
    · skip
      refine wx_aload_n (i := 0) dX9_right_123 rfl rfl ?_
      refine wx_getRG (k := 128) (t := 148) dX9_right_124 zF_X9_86 zKo_128 rfl (Nat.le_of_ble_eq_true rfl) zRf_128_30 ?_
      refine wx_iload_n (i := 3) dX9_right_127 rfl rfl ?_
      refine wx_iload dX9_right_128 rfl ?_
      refine wx_iadd dX9_right_130 ?_
      refine wx_zaldG (k := 148) (j := 1296 * x + s) dX9_right_131 zK_148 (Nat.le_of_ble_eq_true rfl) ?_ ?_ ?_
      · (rw [nI_add])
      · exact ⟨by omega, by decide⟩
      refine wx_if_eq (tgt := 173) dX9_right_132 (by decide) (fun h132 => ?_) (fun h132 => ?_)
      · have hno : ¬ A s := fun w => (hA s hs).mpr w h132
        exact hK m1 v _ hf hA (fun s2 w => (hB s2 w).trans (zRch_o hno)) (hv.trans ⟨fun ⟨a, b⟩ => ⟨a, (zRch_o hno).mp b⟩, fun ⟨a, b⟩ => ⟨a, (zRch_o hno).mpr b⟩⟩) --end
      · have hAy : A s := (hA s hs).mp h132
        refine wx_aload_n (i := 0) dX9_right_135 rfl rfl ?_
        refine wx_iload_n (i := 1) dX9_right_136 rfl rfl ?_
        refine wx_iload_n (i := 2) dX9_right_137 rfl rfl ?_
        refine wx_iload dX9_right_138 rfl ?_
        refine wx_iload dX9_right_140 rfl ?_
        refine wx_V4 dX9_right_142 zPV_X9_isRight zLk_X9_185 rfl (Nat.le_of_ble_eq_true rfl) (Nat.le_of_ble_eq_true rfl) (Or.inr rfl) ?_
        refine s_X9_isRight hn.2 ht hz hs (fun b hb => ?_)
        rw [show m1 129 = h by rw [hf 129 (by decide)]; exact hh, show zPm m1 t = p by rw [← hp]; unfold zPm; rw [hf 135 (by decide)], show m1 128 13 = r by rw [hf 128 (by decide)]; exact hr] at hb
        refine wx_r1 ?_
        refine wx_if_eq (tgt := 167) dX9_right_145 (by decide) (fun h145 => ?_) (fun h145 => ?_)
        · have hno : ¬ zRt h p r z s i := by
            rcases hb with ⟨e, _⟩ | ⟨_, e⟩
            · rw [e] at h145; exact absurd h145 (by decide)
            · exact e
          refine wx_inc (c := 1) dX9_right_167 rfl (by decide) (Nat.le_of_ble_eq_true rfl) rfl ?_
          refine wx_goto (tgt := 113) dX9_right_170 (by decide) ?_
          rw [nI_1]
          exact ih (i + 1) m1 v (by omega) hf hA (fun s2 w => (hB s2 w).trans (zRch_n hno).symm) (hv.trans ⟨fun ⟨a, b⟩ => ⟨a, (zRch_n hno).mpr b⟩, fun ⟨a, b⟩ => ⟨a, (zRch_n hno).mp b⟩⟩)
        · have hye : zRt h p r z s i := by
            rcases hb with ⟨_, e⟩ | ⟨e, _⟩
            · exact e
            · exact absurd e h145
          have hnx := zNx_lt s i
          refine wx_aload_n (i := 0) dX9_right_148 rfl rfl ?_
          refine wx_getRG (k := 128) (t := 148) dX9_right_149 zF_X9_86 zKo_128 rfl (Nat.le_of_ble_eq_true rfl) zRf_128_30 ?_
          refine wx_iload dX9_right_152 rfl ?_
          refine wx_iload dX9_right_154 rfl ?_
          refine wx_iload dX9_right_156 rfl ?_
          refine wx_S2 dX9_right_158 zPS_X9_next zLk_X9_189 (Nat.le_of_ble_eq_true rfl) (Or.inr rfl) ?_
          refine s_X9_next hs (show i ≤ 5 by omega) ?_
          refine wx_r1 ?_
          refine wx_iadd dX9_right_161 ?_
          refine wx_iconst (v := 1) dX9_right_162 (by decide) ?_
          refine wx_zastG (k := 148) (j := 1296 * (1 - x) + zNx s i) dX9_right_163 zK_148 (Nat.le_of_ble_eq_true rfl) ?_ ?_ ?_ ?_
          · (rw [nI_add])
          · exact ⟨by have := zNx_lt s i; omega, by decide⟩
          · rfl
          refine wx_iconst (v := 1) dX9_right_164 (by decide) ?_
          refine wx_istore dX9_right_165 (Nat.le_of_ble_eq_true rfl) rfl ?_
          refine wx_inc (c := 1) dX9_right_167 rfl (by decide) (Nat.le_of_ble_eq_true rfl) rfl ?_
          refine wx_goto (tgt := 113) dX9_right_170 (by decide) ?_
          rw [nI_1]
          refine ih (i + 1) _ _ (by omega) (fun c w => (zU_ne w).trans (hf c w)) (fun a b => ?_) (fun s2 w => ?_) ?_
          · rw [zU_off (by omega)]; exact hA a b
          · rw [zRch_y hAy (by omega) hye]
            by_cases e : s2 = zNx s i
            · rw [e, zU_same]
              exact ⟨fun _ => Or.inr rfl, fun _ => by decide⟩
            · rw [zU_off (by omega), hB s2 w]
              exact ⟨Or.inl, fun q => q.elim id (fun u => absurd u e)⟩
          · exact ⟨fun _ => ⟨zNx s i, (zRch_y hAy (by omega) hye).mpr (Or.inr rfl)⟩, fun _ => by decide⟩
theorem lp_rs {d : Nat} {K : List Value → zS → Prop} {mm : zM} {n t : Nat} {h p : Nat → Int32} {r : Int32} (hzn : mm 128 0 = nI n) (hn : 4 ≤ n ∧ n ≤ 16) (ht : t < 3) (hh : mm 129 = h) (hp : zPm mm t = p) (hr : mm 128 13 = r) {z x : Nat} {A : Nat → Prop} (hz : z < n + 2) (hx : x ≤ 1) (hAs : ∀ s, A s → s < 1296) (hK : ∀ (m2 : zM) (v : Int32) (y : Option Value), (zFca mm m2) → (∀ s, s < 1296 → (m2 148 (1296 * x + s) ≠ 0 ↔ A s)) → (∀ s2, s2 < 1296 → (m2 148 (1296 * (1 - x) + s2) ≠ 0 ↔ zRch n h p r z A 1296 0 s2)) → ((v ≠ 0 ↔ ∃ s2, zRch n h p r z A 1296 0 s2)) → wx (d + 2) mX9_right 179 [some (.ref 128), some (.int (nI t)), some (.int (nI z)), some (.int (nI (1296 * x))), some (.int (nI (1296 * (1 - x)))), some (.int v), some (.int (nI 1296)), y] [] (zG m2) K)  : ∀ (c i : Nat) (m1 : zM) (v : Int32) (y : Option Value), i + c = 1296 → (zFca mm m1) → (∀ s, s < 1296 → (m1 148 (1296 * x + s) ≠ 0 ↔ A s)) → (∀ s2, s2 < 1296 → (m1 148 (1296 * (1 - x) + s2) ≠ 0 ↔ zRch n h p r z A i 0 s2)) → ((v ≠ 0 ↔ ∃ s2, zRch n h p r z A i 0 s2)) → wx (d + 2) mX9_right 102 [some (.ref 128), some (.int (nI t)), some (.int (nI z)), some (.int (nI (1296 * x))), some (.int (nI (1296 * (1 - x)))), some (.int v), some (.int (nI i)), y] [] (zG m1) K := by
  intro c
  induction c with
  | zero =>
    intro i m1 v y hi hf hA hB hv
    obtain rfl : i = 1296 := by omega
    refine wx_iload dX9_right_102 rfl ?_
    refine wx_sipush (v := 1296) dX9_right_104 (by decide) ?_
    refine wx_icmp_ge (tgt := 179) dX9_right_107 (by decide) (fun h107 => ?_) (fun h107 => ?_)
    · skip
      exact hK m1 v _ hf hA hB hv
    · exact absurd (show nI 1296 ≤ nI 1296 from nI_le (by omega) (by omega)) h107 --end
  | succ c ih =>
    intro i m1 v y hi hf hA hB hv
    refine wx_iload dX9_right_102 rfl ?_
    refine wx_sipush (v := 1296) dX9_right_104 (by decide) ?_
    refine wx_icmp_ge (tgt := 179) dX9_right_107 (by decide) (fun h107 => ?_) (fun h107 => ?_)
    · exact absurd (show nI 1296 ≤ nI i from h107) (nI_ge (by omega) (by omega)) --end
    · skip
      refine wx_iconst (v := 0) dX9_right_110 (by decide) ?_
      refine wx_istore dX9_right_111 (Nat.le_of_ble_eq_true rfl) rfl ?_
      rw [show (0 : Int32) = nI 0 from rfl]
      refine lp_rm hzn hn ht hh hp hr hz hx hAs (show i < 1296 by omega) (fun m2 v2 y2 hf2 hA2 hB2 hv2 => ?_) (zMo n z + 1) 0 m1 v (by omega) hf hA hB hv
      refine wx_inc (c := 1) dX9_right_173 rfl (by decide) (Nat.le_of_ble_eq_true rfl) rfl ?_
      refine wx_goto (tgt := 102) dX9_right_176 (by decide) ?_
      rw [nI_1]
      exact ih (i + 1) m2 v2 _ (by omega) hf2 hA2 hB2 hv2
theorem lp_rc {d : Nat} {K : List Value → zS → Prop} {mm : zM} {t z x : Nat} {v : Int32} (hx : x ≤ 1) (hK : ∀ (m2 : zM) (y : Option Value), zFca mm m2 → (∀ s, s < 1296 → m2 148 (1296 * x + s) = mm 148 (1296 * x + s)) → (∀ s, s < 1296 → m2 148 (1296 * (1 - x) + s) = 0) → wx (d + 2) mX9_right 99 [some (.ref 128), some (.int (nI t)), some (.int (nI z)), some (.int (nI (1296 * x))), some (.int (nI (1296 * (1 - x)))), some (.int v), some (.int (nI 1296)), y] [] (zG m2) K)  : ∀ (c i : Nat) (m1 : zM) (y : Option Value), i + c = 1296 → (zFca mm m1) → (∀ s, s < 1296 → m1 148 (1296 * x + s) = mm 148 (1296 * x + s)) → (∀ s, s < i → m1 148 (1296 * (1 - x) + s) = 0) → wx (d + 2) mX9_right 74 [some (.ref 128), some (.int (nI t)), some (.int (nI z)), some (.int (nI (1296 * x))), some (.int (nI (1296 * (1 - x)))), some (.int v), some (.int (nI i)), y] [] (zG m1) K := by
  intro c
  induction c with
  | zero =>
    intro i m1 y hi hf ha hb
    obtain rfl : i = 1296 := by omega
    refine wx_iload dX9_right_74 rfl ?_
    refine wx_sipush (v := 1296) dX9_right_76 (by decide) ?_
    refine wx_icmp_ge (tgt := 99) dX9_right_79 (by decide) (fun h79 => ?_) (fun h79 => ?_)
    · skip
      exact hK m1 _ hf ha hb
    · exact absurd (show nI 1296 ≤ nI 1296 from nI_le (by omega) (by omega)) h79 --end
  | succ c ih =>
    intro i m1 y hi hf ha hb
    refine wx_iload dX9_right_74 rfl ?_
    refine wx_sipush (v := 1296) dX9_right_76 (by decide) ?_
    refine wx_icmp_ge (tgt := 99) dX9_right_79 (by decide) (fun h79 => ?_) (fun h79 => ?_)
    · exact absurd (show nI 1296 ≤ nI i from h79) (nI_ge (by omega) (by omega)) --end
    · skip
      refine wx_aload_n (i := 0) dX9_right_82 rfl rfl ?_
      refine wx_getRG (k := 128) (t := 148) dX9_right_83 zF_X9_86 zKo_128 rfl (Nat.le_of_ble_eq_true rfl) zRf_128_30 ?_
      refine wx_iload dX9_right_86 rfl ?_
      refine wx_iload dX9_right_88 rfl ?_
      refine wx_iadd dX9_right_90 ?_
      refine wx_iconst (v := 0) dX9_right_91 (by decide) ?_
      refine wx_zastG (k := 148) (j := 1296 * (1 - x) + i) dX9_right_92 zK_148 (Nat.le_of_ble_eq_true rfl) ?_ ?_ ?_ ?_
      · (rw [nI_add])
      · exact ⟨by omega, by decide⟩
      · rfl
      refine wx_inc (c := 1) dX9_right_93 rfl (by decide) (Nat.le_of_ble_eq_true rfl) rfl ?_
      refine wx_goto (tgt := 74) dX9_right_96 (by decide) ?_
      rw [nI_1]
      refine ih (i + 1) _ _ (by omega) (fun c w => (zU_ne w).trans (hf c w)) (fun s w => by rw [zU_off (by omega)]; exact ha s w) (fun s w => ?_)
      by_cases e : s = i
      · rw [e, zU_same]
      · rw [zU_off (by omega)]; exact hb s (by omega)
theorem lp_rz {d : Nat} {K : List Value → zS → Prop} {mm : zM} {n t : Nat} {h p : Nat → Int32} {r : Int32} (hzn : mm 128 0 = nI n) (hn : 4 ≤ n ∧ n ≤ 16) (ht : t < 3) (hh : mm 129 = h) (hp : zPm mm t = p) (hr : mm 128 13 = r) (hK : ∀ m2 : zM, zFca mm m2 → K [.int (nI n - nI (zNm n h p r (n + 2) 0))] (zG m2))  : ∀ (c i : Nat) (m1 : zM) (A : Nat → Prop) (y3 y4 y5 y6 y7 : Option Value), i + c = (n + 2) → (zFca mm m1) → (∀ s, s < 1296 → (m1 148 (1296 * (i % 2) + s) ≠ 0 ↔ A s)) → (∀ s, A s → s < 1296) → (zRiv n h p r i A) → wx (d + 2) mX9_right 43 [some (.ref 128), some (.int (nI t)), some (.int (nI i)), y3, y4, y5, y6, y7] [] (zG m1) K := by
  intro c
  induction c with
  | zero =>
    intro i m1 A y3 y4 y5 y6 y7 hi hf hA hAs hi2
    obtain rfl : i = (n + 2) := by omega
    refine wx_iload_n (i := 2) dX9_right_43 rfl rfl ?_
    refine wx_aload_n (i := 0) dX9_right_44 rfl rfl ?_
    refine wx_getIG (k := 128) dX9_right_45 zF_X9_7 zKo_128 rfl (Nat.le_of_ble_eq_true rfl) ?_
    refine wx_iconst (v := 2) dX9_right_48 (by decide) ?_
    refine wx_iadd dX9_right_49 ?_
    refine wx_icmp_ge (tgt := 194) dX9_right_50 (by decide) (fun h50 => ?_) (fun h50 => ?_)
    · skip
      refine wx_aload_n (i := 0) dX9_right_194 rfl rfl ?_
      refine wx_getIG (k := 128) dX9_right_195 zF_X9_7 zKo_128 rfl (Nat.le_of_ble_eq_true rfl) ?_
      refine wx_iret dX9_right_198 rfl rfl (Or.inl rfl) ?_
      obtain ⟨s, _, _, hs⟩ := hi2.1
      rw [Nat.sub_self] at hs
      refine zki (hK m1 hf) ?_
      rw [← show 0 = zNm n h p r (n + 2) 0 from hs, hf 128 (by decide), hzn, show nI 0 = zi 0 from rfl, zi_nI, zi_sub]
      exact congrArg zi (by omega)
    · exact absurd (show m1 128 0 + 2 ≤ nI (n + 2) by rw [hf 128 (by decide), hzn, show (2 : Int32) = nI 2 from rfl, nI_add]; exact nI_le (Nat.le_refl _) (by omega)) h50 --end
  | succ c ih =>
    intro i m1 A y3 y4 y5 y6 y7 hi hf hA hAs hi2
    refine wx_iload_n (i := 2) dX9_right_43 rfl rfl ?_
    refine wx_aload_n (i := 0) dX9_right_44 rfl rfl ?_
    refine wx_getIG (k := 128) dX9_right_45 zF_X9_7 zKo_128 rfl (Nat.le_of_ble_eq_true rfl) ?_
    refine wx_iconst (v := 2) dX9_right_48 (by decide) ?_
    refine wx_iadd dX9_right_49 ?_
    refine wx_icmp_ge (tgt := 194) dX9_right_50 (by decide) (fun h50 => ?_) (fun h50 => ?_)
    · exact absurd (show m1 128 0 + 2 ≤ nI i from h50) (by rw [hf 128 (by decide), hzn, show (2 : Int32) = nI 2 from rfl, nI_add]; exact nI_ge (by omega) (by omega)) --end
    · skip
      refine wx_sipush (v := 1296) dX9_right_53 (by decide) ?_
      refine wx_iload_n (i := 2) dX9_right_56 rfl rfl ?_
      refine wx_iconst (v := 2) dX9_right_57 (by decide) ?_
      refine wx_irem dX9_right_58 ?_ ?_
      · decide
      rw [show (2 : Int32) = nI 2 from rfl, nI_rem (by omega) (by omega)]
      refine wx_imul dX9_right_59 ?_
      rw [show (1296 : Int32) = nI 1296 from rfl, nI_mul]
      refine wx_istore_n (i := 3) dX9_right_60 rfl (Nat.le_of_ble_eq_true rfl) rfl ?_
      refine wx_sipush (v := 1296) dX9_right_61 (by decide) ?_
      refine wx_iload_n (i := 3) dX9_right_64 rfl rfl ?_
      refine wx_isub dX9_right_65 ?_
      rw [show (1296 : Int32) = nI 1296 from rfl, nI_sub (by omega), show 1296 - 1296 * (i % 2) = 1296 * (1 - i % 2) by omega]
      refine wx_istore dX9_right_66 (Nat.le_of_ble_eq_true rfl) rfl ?_
      refine wx_iconst (v := 0) dX9_right_68 (by decide) ?_
      refine wx_istore dX9_right_69 (Nat.le_of_ble_eq_true rfl) rfl ?_
      refine wx_iconst (v := 0) dX9_right_71 (by decide) ?_
      refine wx_istore dX9_right_72 (Nat.le_of_ble_eq_true rfl) rfl ?_
      rw [show (0 : Int32) = nI 0 from rfl]
      refine lp_rc (mm := m1) (show i % 2 ≤ 1 by omega) (fun m2 y2 hfc ha2 hb2 => ?_) 1296 0 m1 _ (by omega) (fun _ _ => rfl) (fun _ _ => rfl) (fun s w => absurd w (Nat.not_lt_zero s))
      have hf2 : zFca mm m2 := fun c w => (hfc c w).trans (hf c w)
      refine wx_iconst (v := 0) dX9_right_99 (by decide) ?_
      refine wx_istore dX9_right_100 (Nat.le_of_ble_eq_true rfl) rfl ?_
      rw [show (0 : Int32) = nI 0 from rfl]
      refine lp_rs hzn hn ht hh hp hr (show i < n + 2 by omega) (show i % 2 ≤ 1 by omega) hAs (fun m3 v3 y3 hf3 hA3 hB3 hv3 => ?_) 1296 0 m2 (nI 0) _ (by omega) hf2 (fun s w => by rw [ha2 s w]; exact hA s w) (fun s2 w => ⟨fun q => absurd (hb2 s2 w) q, fun q => absurd q (zRch_0 s2)⟩) ⟨fun q => absurd rfl q, fun ⟨s2, q⟩ => absurd q (zRch_0 s2)⟩
      refine wx_iload dX9_right_179 rfl ?_
      refine wx_if_ne (tgt := 188) dX9_right_181 (by decide) (fun h181 => ?_) (fun h181 => ?_)
      · skip
        refine wx_inc (c := 1) dX9_right_188 rfl (by decide) (Nat.le_of_ble_eq_true rfl) rfl ?_
        refine wx_goto (tgt := 43) dX9_right_191 (by decide) ?_
        rw [nI_1]
        have hpar : 1 - i % 2 = (i + 1) % 2 := by omega
        rw [hpar] at hB3
        exact ih (i + 1) m3 (zRch n h p r i A 1296 0) _ _ _ _ _ (by omega) hf3 (fun s w => hB3 s w) (fun s ⟨a, m, _, _, _, _, q⟩ => by rw [q]; exact zNx_lt a m) (zRiv_s (by omega) hi2 (fun _ _ => Iff.rfl) (hv3.mp h181) hAs)
      · skip
        refine wx_iload_n (i := 2) dX9_right_184 rfl rfl ?_
        refine wx_iconst (v := 2) dX9_right_185 (by decide) ?_
        refine wx_isub dX9_right_186 ?_
        refine wx_iret dX9_right_187 rfl rfl (Or.inl rfl) ?_
        have h0 : zNm n h p r (n + 2) 0 = n + 2 - i := zRiv_no (by omega) hi2 (fun s2 w => by
          exact absurd h181 (hv3.mpr ⟨s2, w⟩))
        refine zki (hK m3 hf3) ?_
        rw [h0, zl_2, zi_nI, zi_nI, zi_sub, zi_nI, zi_sub]
        exact congrArg zi (by omega)
theorem lp_r0 {d : Nat} {K : List Value → zS → Prop} {mm : zM} {t : Nat} (hK : ∀ (m2 : zM) (y : Option Value), zFca mm m2 → (∀ s, s < 1296 → (m2 148 s ≠ 0 ↔ s = 0)) → wx (d + 2) mX9_right 41 [some (.ref 128), some (.int (nI t)), y, none, none, none, none, none] [] (zG m2) K)  : ∀ (c i : Nat) (m1 : zM), i + c = 1296 → (zFca mm m1) → (∀ s, s < i → (m1 148 s ≠ 0 ↔ s = 0)) → wx (d + 2) mX9_right 13 [some (.ref 128), some (.int (nI t)), some (.int (nI i)), none, none, none, none, none] [] (zG m1) K := by
  intro c
  induction c with
  | zero =>
    intro i m1 hi hf hg
    obtain rfl : i = 1296 := by omega
    refine wx_iload_n (i := 2) dX9_right_13 rfl rfl ?_
    refine wx_sipush (v := 1296) dX9_right_14 (by decide) ?_
    refine wx_icmp_ge (tgt := 41) dX9_right_17 (by decide) (fun h17 => ?_) (fun h17 => ?_)
    · skip
      exact hK m1 _ hf hg
    · exact absurd (show nI 1296 ≤ nI 1296 from nI_le (by omega) (by omega)) h17 --end
  | succ c ih =>
    intro i m1 hi hf hg
    refine wx_iload_n (i := 2) dX9_right_13 rfl rfl ?_
    refine wx_sipush (v := 1296) dX9_right_14 (by decide) ?_
    refine wx_icmp_ge (tgt := 41) dX9_right_17 (by decide) (fun h17 => ?_) (fun h17 => ?_)
    · exact absurd (show nI 1296 ≤ nI i from h17) (nI_ge (by omega) (by omega)) --end
    · skip
      refine wx_aload_n (i := 0) dX9_right_20 rfl rfl ?_
      refine wx_getRG (k := 128) (t := 148) dX9_right_21 zF_X9_86 zKo_128 rfl (Nat.le_of_ble_eq_true rfl) zRf_128_30 ?_
      refine wx_iload_n (i := 2) dX9_right_24 rfl rfl ?_
      refine wx_iload_n (i := 2) dX9_right_25 rfl rfl ?_
      refine wx_if_ne (tgt := 33) dX9_right_26 (by decide) (fun h26 => ?_) (fun h26 => ?_)
      · rw [show (0 : Int32) = nI 0 from rfl, nI_eq (by omega) (by omega)] at h26
        refine wx_iconst (v := 0) dX9_right_33 (by decide) ?_
        refine wx_zastG (k := 148) dX9_right_34 zK_148 (Nat.le_of_ble_eq_true rfl) rfl ?_ ?_ ?_
        · exact ⟨by omega, by decide⟩
        · rfl
        refine wx_inc (c := 1) dX9_right_35 rfl (by decide) (Nat.le_of_ble_eq_true rfl) rfl ?_
        refine wx_goto (tgt := 13) dX9_right_38 (by decide) ?_
        rw [nI_1]
        refine ih (i + 1) _ (by omega) (fun c w => (zU_ne w).trans (hf c w)) (fun s w => ?_)
        by_cases e : s = i
        · rw [e, zU_same]
          first | exact ⟨fun q => absurd rfl q, fun q => absurd q h26⟩ | exact ⟨fun _ => h26, fun _ => by decide⟩
        · rw [zU_off (by omega)]; exact hg s (by omega)
      · rw [show (0 : Int32) = nI 0 from rfl, nI_eq (by omega) (by omega)] at h26
        refine wx_iconst (v := 1) dX9_right_29 (by decide) ?_
        refine wx_goto (tgt := 34) dX9_right_30 (by decide) ?_
        refine wx_zastG (k := 148) dX9_right_34 zK_148 (Nat.le_of_ble_eq_true rfl) rfl ?_ ?_ ?_
        · exact ⟨by omega, by decide⟩
        · rfl
        refine wx_inc (c := 1) dX9_right_35 rfl (by decide) (Nat.le_of_ble_eq_true rfl) rfl ?_
        refine wx_goto (tgt := 13) dX9_right_38 (by decide) ?_
        rw [nI_1]
        refine ih (i + 1) _ (by omega) (fun c w => (zU_ne w).trans (hf c w)) (fun s w => ?_)
        by_cases e : s = i
        · rw [e, zU_same]
          first | exact ⟨fun q => absurd rfl q, fun q => absurd q h26⟩ | exact ⟨fun _ => h26, fun _ => by decide⟩
        · rw [zU_off (by omega)]; exact hg s (by omega)
theorem s_X9_right_bad {d : Nat} {K : List Value → zS → Prop} {mm : zM} {a : Int32} (hb : ¬ ((0 ≤ a ∧ a ≤ 2))) (hK : K [.int (-1)] (zG mm)) : wm (d + 2) mX9_right [.ref 128, .int a] (zG mm) K := by
  refine wm_of2 (L0 := [some (.ref 128), some (.int a), none, none, none, none, none, none]) zCm_X9_right (Or.inl rfl) (Nat.le_of_ble_eq_true rfl) rfl ?_
  refine wx_iload_n (i := 1) dX9_right_0 rfl rfl ?_
  refine wx_iconst (v := 0) dX9_right_1 (by decide) ?_
  refine wx_iconst (v := 2) dX9_right_2 (by decide) ?_
  refine wx_S3 dX9_right_3 zPS_X9_in zLk_X9_116 (Nat.le_of_ble_eq_true rfl) (Or.inr rfl) ?_
  refine s_X9_in _ _ _ ?_
  refine wx_r1 ?_
  refine wx_neb (tgt := 11) dX9_right_6 (by decide) (fun h6 => ?_) (fun h6 => ?_)
  · skip
    exact (hb (by assumption)).elim
  · skip
    refine wx_iconst (v := (-1)) dX9_right_9 (by decide) ?_
    refine wx_iret dX9_right_10 rfl rfl (Or.inl rfl) ?_
    exact hK
theorem s_X9_right_ok {d : Nat} {K : List Value → zS → Prop} {mm : zM} {n t : Nat} {h p : Nat → Int32} {r : Int32} (hzn : mm 128 0 = nI n) (hn : 4 ≤ n ∧ n ≤ 16) (ht : t < 3) (hh : mm 129 = h) (hp : zPm mm t = p) (hr : mm 128 13 = r) (k1 : 0 ≤ nI t ∧ nI t ≤ 2) (hK : ∀ m2 : zM, zFca mm m2 → K [.int (nI n - nI (zNm n h p r (n + 2) 0))] (zG m2))  : wm (d + 2) mX9_right [.ref 128, .int (nI t)] (zG mm) K := by
  refine wm_of2 (L0 := [some (.ref 128), some (.int (nI t)), none, none, none, none, none, none]) zCm_X9_right (Or.inl rfl) (Nat.le_of_ble_eq_true rfl) rfl ?_
  refine wx_iload_n (i := 1) dX9_right_0 rfl rfl ?_
  refine wx_iconst (v := 0) dX9_right_1 (by decide) ?_
  refine wx_iconst (v := 2) dX9_right_2 (by decide) ?_
  refine wx_S3 dX9_right_3 zPS_X9_in zLk_X9_116 (Nat.le_of_ble_eq_true rfl) (Or.inr rfl) ?_
  refine s_X9_in _ _ _ ?_
  refine wx_r1 ?_
  refine wx_neb (tgt := 11) dX9_right_6 (by decide) (fun h6 => ?_) (fun h6 => ?_)
  · skip
    refine wx_iconst (v := 0) dX9_right_11 (by decide) ?_
    refine wx_istore_n (i := 2) dX9_right_12 rfl (Nat.le_of_ble_eq_true rfl) rfl ?_
    refine lp_r0 (fun m2 y hf hg => ?_) 1296 0 mm (by omega) (fun _ _ => rfl) (fun s w => absurd w (Nat.not_lt_zero s))
    refine wx_iconst (v := 0) dX9_right_41 (by decide) ?_
    refine wx_istore_n (i := 2) dX9_right_42 rfl (Nat.le_of_ble_eq_true rfl) rfl ?_
    exact lp_rz hzn hn ht hh hp hr hK (n + 2) 0 m2 (fun s => s = 0) _ _ _ _ _ (by omega) hf (fun s w => by
      rw [show 1296 * (0 % 2) + s = s by omega]
      exact hg s w) (fun s e => by omega) ⟨⟨0, by omega, rfl, rfl⟩, fun s _ e => by rw [e]; exact Nat.le_refl _⟩
  · exact absurd k1 h6 --end
