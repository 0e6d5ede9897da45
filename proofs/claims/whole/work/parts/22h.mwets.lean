/-! the grits of the reference: wetsBy -/
/-- the table's rows from b on -/
def zTc (D top q : Nat) (tk : Nat → Nat) (pt : Nat → Int) (mm : zM) (b : Nat) : Prop := ∀ g l s, b ≤ g → g ≤ q → l < 7 → s ≤ top → mm 153 (zMc g l s) = nI (zMq D top q tk pt (q - g) l s)
/-- and of row g what stands ahead of last, sum -/
def zTb (D top q : Nat) (tk : Nat → Nat) (pt : Nat → Int) (mm : zM) (g last sum : Nat) : Prop := zTc D top q tk pt mm (g + 1) ∧ ∀ l s, l < 7 → s ≤ top → (l < last ∨ l = last ∧ s < sum) → mm 153 (zMc g l s) = nI (zMq D top q tk pt (q - g) l s)
theorem zTb_0 {D top q : Nat} {tk : Nat → Nat} {pt : Nat → Int} {mm : zM} {g : Nat} (h : zTc D top q tk pt mm (g + 1)) : zTb D top q tk pt mm g 0 0 := ⟨h, fun l s _ _ e => absurd e (by omega)⟩
theorem zTb_l {D top q : Nat} {tk : Nat → Nat} {pt : Nat → Int} {mm : zM} {g last : Nat} (h : zTb D top q tk pt mm g last (top + 1)) : zTb D top q tk pt mm g (last + 1) 0 := ⟨h.1, fun l s a b e => h.2 l s a b (by omega)⟩
theorem zTb_7 {D top q : Nat} {tk : Nat → Nat} {pt : Nat → Int} {mm : zM} {g : Nat} (h : zTb D top q tk pt mm g 7 0) : zTc D top q tk pt mm g := fun g2 l s a b c e => by
  by_cases q2 : g2 = g
  · subst q2; exact h.2 l s c e (Or.inl c)
  · exact h.1 g2 l s (by omega) b c e
theorem zTb_s {D top q : Nat} {tk : Nat → Nat} {pt : Nat → Int} {mm : zM} {g last i : Nat} (h : zTb D top q tk pt mm g last i) (hl : last < 7) (hi : i ≤ top) (ht : top ≤ 2100) : zTb D top q tk pt (zU mm 153 (zMc g last i) (nI (zMq D top q tk pt (q - g) last i))) g last (i + 1) := by
  refine ⟨fun g2 l s a b c e => ?_, fun l s a b e => ?_⟩
  · rw [zU_off (fun w => zMc_ne c (by omega) hl (by omega) (by omega) w.2)]
    exact h.1 g2 l s a b c e
  · by_cases w : l = last ∧ s = i
    · rw [w.1, w.2, zU_same]
    · rw [zU_off (fun v => zMc_ne a (by omega) hl (by omega) (fun z => w ⟨z.2.1, z.2.2⟩) v.2)]
      exact h.2 l s a b (by omega)
theorem zMg_fr {pt : Nat → Int} {tk : Nat → Nat} {q : Nat} {mm m1 : zM} (h : zMg pt tk q mm) (f : ∀ c, c ≠ 153 → m1 c = mm c) : zMg pt tk q m1 := ⟨h.1, by rw [f 128 (by decide)]; exact h.2.1, fun k hk => by rw [f 143 (by decide)]; exact h.2.2.1 k hk, fun k hk => by rw [f 142 (by decide)]; exact h.2.2.2 k hk⟩
theorem lp_wb {d : Nat} {K : List Value → zS → Prop} {mm : zM} {pt : Nat → Int} {tk : Nat → Nat} {q top D : Nat} {g last sum : Nat} (hC : zMg pt tk q mm) (hl : last < 7) (htop : top ≤ 2100) (hs : sum ≤ top) (hF : ∀ l s, l < 7 → s ≤ top → mm 153 (zMc (g + 1) l s) = nI (zMq D top q tk pt (q - (g + 1)) l s) ∧ zMq D top q tk pt (q - (g + 1)) l s ≤ 1000000) (hg : g < q) (hK : ∀ y7 y8 : Option Value, wx (d + 2) mX9_wetsBy 127 [some (.ref 128), some (.int (nI D)), some (.int (nI top)), some (.int (nI g)), some (.int (nI last)), some (.int (nI sum)), some (.int (nI (zMq D top q tk pt (q - g) last sum))), y7, y8] [] (zG mm) K)  : ∀ (c i : Nat) (y8 : Option Value), i + c = 31 →  wx (d + 2) mX9_wetsBy 60 [some (.ref 128), some (.int (nI D)), some (.int (nI top)), some (.int (nI g)), some (.int (nI last)), some (.int (nI sum)), some (.int (nI (zLm 1000000 (zMw top q tk pt (zMq D top q tk pt (q - (g + 1))) g last sum) i))), some (.int (nI i)), y8] [] (zG mm) K := by
  intro c
  induction c with
  | zero =>
    intro i y8 hi 
    obtain rfl : i = 31 := by omega
    have hT := hC.2.2.2 g hg
    have hq6 := hC.1
    have hV : zMq D top q tk pt (q - g) last sum = zLm 1000000 (zMw top q tk pt (zMq D top q tk pt (q - (g + 1))) g last sum) 31 := by
      rw [show q - g = (q - (g + 1)) + 1 by omega]
      show zLm 1000000 (zMw top q tk pt _ (q - (q - (g + 1) + 1)) last sum) 31 = _
      rw [show q - (q - (g + 1) + 1) = g by omega]
    refine wx_iload dX9_wetsBy_60 rfl ?_
    refine wx_bipush (v := 30) dX9_wetsBy_62 (by decide) ?_
    refine wx_icmp_gt (tgt := 127) dX9_wetsBy_64 (by decide) (fun h64 => ?_) (fun h64 => ?_)
    · skip
      rw [hV] at hK
      exact hK _ _
    · exact absurd (show nI 30 < nI 31 from nI_lt (by omega) (by omega)) h64 --end
  | succ c ih =>
    intro i y8 hi 
    have hT := hC.2.2.2 g hg
    have hq6 := hC.1
    have hV : zMq D top q tk pt (q - g) last sum = zLm 1000000 (zMw top q tk pt (zMq D top q tk pt (q - (g + 1))) g last sum) 31 := by
      rw [show q - g = (q - (g + 1)) + 1 by omega]
      show zLm 1000000 (zMw top q tk pt _ (q - (q - (g + 1) + 1)) last sum) 31 = _
      rw [show q - (q - (g + 1) + 1) = g by omega]
    have hmu : i * tk g ≤ 30 * 100 := Nat.mul_le_mul (by omega) hT.2.2
    refine wx_iload dX9_wetsBy_60 rfl ?_
    refine wx_bipush (v := 30) dX9_wetsBy_62 (by decide) ?_
    refine wx_icmp_gt (tgt := 127) dX9_wetsBy_64 (by decide) (fun h64 => ?_) (fun h64 => ?_)
    · exact absurd (show nI 30 < nI i from h64) (nI_nlt (by omega) (by omega)) --end
    · skip
      refine wx_iload_n (i := 3) dX9_wetsBy_67 rfl rfl ?_
      refine wx_aload_n (i := 0) dX9_wetsBy_68 rfl rfl ?_
      refine wx_getIG (k := 128) dX9_wetsBy_69 zF_X9_213 zKo_128 rfl (Nat.le_of_ble_eq_true rfl) ?_
      refine wx_icmp_ge (tgt := 127) dX9_wetsBy_72 (by decide) (fun h72 => ?_) (fun h72 => ?_)
      · rw [hC.2.1] at h72
        exact absurd h72 (nI_ge hg (by omega)) --end
      · skip
        refine wx_iload dX9_wetsBy_75 rfl ?_
        refine wx_iload dX9_wetsBy_77 rfl ?_
        refine wx_aload_n (i := 0) dX9_wetsBy_79 rfl rfl ?_
        refine wx_getRG (k := 128) (t := 142) dX9_wetsBy_80 zF_X9_68 zKo_128 rfl (Nat.le_of_ble_eq_true rfl) zRf_128_22 ?_
        refine wx_iload_n (i := 3) dX9_wetsBy_83 rfl rfl ?_
        refine wx_ialdG (k := 142) dX9_wetsBy_84 zK_142 (Nat.le_of_ble_eq_true rfl) rfl ?_ ?_
        · exact ⟨by omega, by decide⟩
        refine wx_imul dX9_wetsBy_85 ?_
        refine wx_iadd dX9_wetsBy_86 ?_
        refine wx_iload_n (i := 2) dX9_wetsBy_87 rfl rfl ?_
        rw [hT.1, nI_mul, nI_add]
        refine wx_icmp_gt (tgt := 127) dX9_wetsBy_88 (by decide) (fun h88 => ?_) (fun h88 => ?_)
        · rw [nI_ltI (by omega) (by omega)] at h88
          rw [show zLm 1000000 (zMw top q tk pt (zMq D top q tk pt (q - (g + 1))) g last sum) i = zLm 1000000 (zMw top q tk pt (zMq D top q tk pt (q - (g + 1))) g last sum) 31 from (zLm_more (fun j a b => by
            have : i * tk g ≤ j * tk g := Nat.mul_le_mul_right _ a
            unfold zMw
            rw [if_pos (by omega)]
            exact Nat.le_refl _) (by omega)).symm, ← hV]
          exact hK _ _ --end
        · rw [nI_ltI (by omega) (by omega)] at h88
          refine wx_aload_n (i := 0) dX9_wetsBy_91 rfl rfl ?_
          refine wx_iload_n (i := 3) dX9_wetsBy_92 rfl rfl ?_
          refine wx_iload dX9_wetsBy_93 rfl ?_
          refine wx_iload dX9_wetsBy_95 rfl ?_
          refine wx_iload dX9_wetsBy_97 rfl ?_
          refine wx_iload_n (i := 2) dX9_wetsBy_99 rfl rfl ?_
          refine wx_V5 dX9_wetsBy_100 zPV_X9_with zLk_X9_223 rfl (Nat.le_of_ble_eq_true rfl) (Nat.le_of_ble_eq_true rfl) (Or.inr rfl) ?_
          refine s_X9_with hC hg hl htop hs (by omega) hF ?_
          have hb1 := zLm_le 1000000 (zMw top q tk pt (zMq D top q tk pt (q - (g + 1))) g last sum) i
          have hb2 := zMw_le (D := D) (top := top) (q := q) (tk := tk) (pt := pt) (c := q - (g + 1)) (g := g) (last := last) (sum := sum) (w := i)
          refine wx_r1 ?_
          refine wx_istore dX9_wetsBy_103 (Nat.le_of_ble_eq_true rfl) rfl ?_
          refine wx_iload dX9_wetsBy_105 rfl ?_
          refine wx_iload dX9_wetsBy_107 rfl ?_
          refine wx_icmp_ge (tgt := 117) dX9_wetsBy_109 (by decide) (fun h109 => ?_) (fun h109 => ?_)
          · rw [nI_leI (by omega) (by omega)] at h109
            refine wx_iload dX9_wetsBy_117 rfl ?_
            refine wx_istore dX9_wetsBy_119 (Nat.le_of_ble_eq_true rfl) rfl ?_
            refine wx_inc (c := 1) dX9_wetsBy_121 rfl (by decide) (Nat.le_of_ble_eq_true rfl) rfl ?_
            refine wx_goto (tgt := 60) dX9_wetsBy_124 (by decide) ?_
            rw [nI_1]
            have e : zLm 1000000 (zMw top q tk pt (zMq D top q tk pt (q - (g + 1))) g last sum) (i + 1) = if (zMw top q tk pt (zMq D top q tk pt (q - (g + 1))) g last sum) i < zLm 1000000 (zMw top q tk pt (zMq D top q tk pt (q - (g + 1))) g last sum) i then (zMw top q tk pt (zMq D top q tk pt (q - (g + 1))) g last sum) i else zLm 1000000 (zMw top q tk pt (zMq D top q tk pt (q - (g + 1))) g last sum) i := rfl
            first | (rw [if_neg (by omega)] at e; rw [← e]; exact ih (i + 1) _ (by omega)) | (rw [if_pos (by omega)] at e; rw [← e]; exact ih (i + 1) _ (by omega))
          · rw [nI_leI (by omega) (by omega)] at h109
            refine wx_iload dX9_wetsBy_112 rfl ?_
            refine wx_goto (tgt := 119) dX9_wetsBy_114 (by decide) ?_
            refine wx_istore dX9_wetsBy_119 (Nat.le_of_ble_eq_true rfl) rfl ?_
            refine wx_inc (c := 1) dX9_wetsBy_121 rfl (by decide) (Nat.le_of_ble_eq_true rfl) rfl ?_
            refine wx_goto (tgt := 60) dX9_wetsBy_124 (by decide) ?_
            rw [nI_1]
            have e : zLm 1000000 (zMw top q tk pt (zMq D top q tk pt (q - (g + 1))) g last sum) (i + 1) = if (zMw top q tk pt (zMq D top q tk pt (q - (g + 1))) g last sum) i < zLm 1000000 (zMw top q tk pt (zMq D top q tk pt (q - (g + 1))) g last sum) i then (zMw top q tk pt (zMq D top q tk pt (q - (g + 1))) g last sum) i else zLm 1000000 (zMw top q tk pt (zMq D top q tk pt (q - (g + 1))) g last sum) i := rfl
            first | (rw [if_neg (by omega)] at e; rw [← e]; exact ih (i + 1) _ (by omega)) | (rw [if_pos (by omega)] at e; rw [← e]; exact ih (i + 1) _ (by omega))
theorem lp_cell {d : Nat} {K : List Value → zS → Prop} {mm : zM} {pt : Nat → Int} {tk : Nat → Nat} {q top D : Nat} {g last sum : Nat} (hC : zMg pt tk q mm) (hl : last < 7) (htop : top ≤ 2100) (hs : sum ≤ top) (hD : D ≤ 2000) (hg : g ≤ q) (hF : g < q → ∀ l s, l < 7 → s ≤ top → mm 153 (zMc (g + 1) l s) = nI (zMq D top q tk pt (q - (g + 1)) l s)) {y6 y7 y8 : Option Value} (hK : ∀ y7 y8 : Option Value, wx (d + 2) mX9_wetsBy 127 [some (.ref 128), some (.int (nI D)), some (.int (nI top)), some (.int (nI g)), some (.int (nI last)), some (.int (nI sum)), some (.int (nI (zMq D top q tk pt (q - g) last sum))), y7, y8] [] (zG mm) K)  : wx (d + 2) mX9_wetsBy 35 [some (.ref 128), some (.int (nI D)), some (.int (nI top)), some (.int (nI g)), some (.int (nI last)), some (.int (nI sum)), y6, y7, y8] [] (zG mm) K := by
  have hq6 := hC.1
  by_cases hgq : g = q
  · subst hgq
    refine wx_iload_n (i := 3) dX9_wetsBy_35 rfl rfl ?_
    refine wx_aload_n (i := 0) dX9_wetsBy_36 rfl rfl ?_
    refine wx_getIG (k := 128) dX9_wetsBy_37 zF_X9_213 zKo_128 rfl (Nat.le_of_ble_eq_true rfl) ?_
    rw [hC.2.1]
    refine wx_icmp_ne (tgt := 53) dX9_wetsBy_40 (by decide) (fun h40 => ?_) (fun h40 => ?_)
    · exact absurd rfl h40 --end
    · skip
      refine wx_iload dX9_wetsBy_43 rfl ?_
      refine wx_iload_n (i := 1) dX9_wetsBy_45 rfl rfl ?_
      refine wx_icmp_lt (tgt := 53) dX9_wetsBy_46 (by decide) (fun h46 => ?_) (fun h46 => ?_)
      · rw [nI_ltI (by omega) (by omega)] at h46
        rw [show zMq D top g tk pt (g - g) last sum = 1000000 from by rw [Nat.sub_self]; exact if_neg (by omega)] at hK
        refine wx_ldc dX9_wetsBy_53 zKc_X9_162 ?_
        refine wx_istore dX9_wetsBy_55 (Nat.le_of_ble_eq_true rfl) rfl ?_
        refine wx_iconst (v := 0) dX9_wetsBy_57 (by decide) ?_
        refine wx_istore dX9_wetsBy_58 (Nat.le_of_ble_eq_true rfl) rfl ?_
        refine wx_iload dX9_wetsBy_60 rfl ?_
        refine wx_bipush (v := 30) dX9_wetsBy_62 (by decide) ?_
        refine wx_icmp_gt (tgt := 127) dX9_wetsBy_64 (by decide) (fun h64 => ?_) (fun h64 => ?_)
        · exact absurd h64 (by decide) --end
        · skip
          refine wx_iload_n (i := 3) dX9_wetsBy_67 rfl rfl ?_
          refine wx_aload_n (i := 0) dX9_wetsBy_68 rfl rfl ?_
          refine wx_getIG (k := 128) dX9_wetsBy_69 zF_X9_213 zKo_128 rfl (Nat.le_of_ble_eq_true rfl) ?_
          refine wx_icmp_ge (tgt := 127) dX9_wetsBy_72 (by decide) (fun h72 => ?_) (fun h72 => ?_)
          · skip
            exact hK _ _
          · exact absurd (show mm 128 21 ≤ nI g by rw [hC.2.1]; exact nI_le (by omega) (by omega)) h72 --end
      · rw [nI_ltI (by omega) (by omega)] at h46
        rw [show zMq D top g tk pt (g - g) last sum = 0 from by rw [Nat.sub_self]; exact if_pos (by omega)] at hK
        refine wx_iconst (v := 0) dX9_wetsBy_49 (by decide) ?_
        refine wx_goto (tgt := 55) dX9_wetsBy_50 (by decide) ?_
        refine wx_istore dX9_wetsBy_55 (Nat.le_of_ble_eq_true rfl) rfl ?_
        refine wx_iconst (v := 0) dX9_wetsBy_57 (by decide) ?_
        refine wx_istore dX9_wetsBy_58 (Nat.le_of_ble_eq_true rfl) rfl ?_
        refine wx_iload dX9_wetsBy_60 rfl ?_
        refine wx_bipush (v := 30) dX9_wetsBy_62 (by decide) ?_
        refine wx_icmp_gt (tgt := 127) dX9_wetsBy_64 (by decide) (fun h64 => ?_) (fun h64 => ?_)
        · exact absurd h64 (by decide) --end
        · skip
          refine wx_iload_n (i := 3) dX9_wetsBy_67 rfl rfl ?_
          refine wx_aload_n (i := 0) dX9_wetsBy_68 rfl rfl ?_
          refine wx_getIG (k := 128) dX9_wetsBy_69 zF_X9_213 zKo_128 rfl (Nat.le_of_ble_eq_true rfl) ?_
          refine wx_icmp_ge (tgt := 127) dX9_wetsBy_72 (by decide) (fun h72 => ?_) (fun h72 => ?_)
          · skip
            exact hK _ _
          · exact absurd (show mm 128 21 ≤ nI g by rw [hC.2.1]; exact nI_le (by omega) (by omega)) h72 --end
  · skip
    refine wx_iload_n (i := 3) dX9_wetsBy_35 rfl rfl ?_
    refine wx_aload_n (i := 0) dX9_wetsBy_36 rfl rfl ?_
    refine wx_getIG (k := 128) dX9_wetsBy_37 zF_X9_213 zKo_128 rfl (Nat.le_of_ble_eq_true rfl) ?_
    refine wx_icmp_ne (tgt := 53) dX9_wetsBy_40 (by decide) (fun h40 => ?_) (fun h40 => ?_)
    · skip
      refine wx_ldc dX9_wetsBy_53 zKc_X9_162 ?_
      refine wx_istore dX9_wetsBy_55 (Nat.le_of_ble_eq_true rfl) rfl ?_
      refine wx_iconst (v := 0) dX9_wetsBy_57 (by decide) ?_
      refine wx_istore dX9_wetsBy_58 (Nat.le_of_ble_eq_true rfl) rfl ?_
      exact lp_wb hC hl htop hs (fun l s a b => ⟨hF (by omega) l s a b, zMq_le _ _ _ _ _ _ _ _⟩) (by omega) hK 31 0 _ (by omega)
    · rw [hC.2.1, nI_eq (by omega) (by omega)] at h40
      exact absurd h40 hgq --end
theorem lp_ws {d : Nat} {K : List Value → zS → Prop} {mm : zM} {pt : Nat → Int} {tk : Nat → Nat} {q top D : Nat} (hC : zMg pt tk q mm) (htop : top ≤ 2100) (hD : D ≤ 2000) {g last : Nat} (hl : last < 7) (hg : g ≤ q) (hK : ∀ (m2 : zM) (y5 y6 y7 y8 : Option Value), (∀ c, c ≠ 153 → m2 c = mm c) → zTb D top q tk pt m2 g (last + 1) 0 → wx (d + 2) mX9_wetsBy 148 [some (.ref 128), some (.int (nI D)), some (.int (nI top)), some (.int (nI g)), some (.int (nI last)), y5, y6, y7, y8] [] (zG m2) K)  : ∀ (c i : Nat) (m1 : zM) (y6 y7 y8 : Option Value), i + c = (top + 1) → (∀ c, c ≠ 153 → m1 c = mm c) → (zTb D top q tk pt m1 g last i) → wx (d + 2) mX9_wetsBy 29 [some (.ref 128), some (.int (nI D)), some (.int (nI top)), some (.int (nI g)), some (.int (nI last)), some (.int (nI i)), y6, y7, y8] [] (zG m1) K := by
  intro c
  induction c with
  | zero =>
    intro i m1 y6 y7 y8 hi hf ht
    obtain rfl : i = (top + 1) := by omega
    refine wx_iload dX9_wetsBy_29 rfl ?_
    refine wx_iload_n (i := 2) dX9_wetsBy_31 rfl rfl ?_
    refine wx_icmp_gt (tgt := 148) dX9_wetsBy_32 (by decide) (fun h32 => ?_) (fun h32 => ?_)
    · skip
      exact hK m1 _ _ _ _ hf (zTb_l ht)
    · exact absurd (show nI top < nI (top + 1) from nI_lt (by omega) (by omega)) h32 --end
  | succ c ih =>
    intro i m1 y6 y7 y8 hi hf ht
    refine wx_iload dX9_wetsBy_29 rfl ?_
    refine wx_iload_n (i := 2) dX9_wetsBy_31 rfl rfl ?_
    refine wx_icmp_gt (tgt := 148) dX9_wetsBy_32 (by decide) (fun h32 => ?_) (fun h32 => ?_)
    · exact absurd h32 (nI_nlt (by omega) (by omega)) --end
    · skip
      have hq6 := hC.1
      refine lp_cell (zMg_fr hC hf) hl htop (by omega) hD hg (fun w l s a b => ht.1 (g + 1) l s (by omega) (by omega) a b) (fun y7 y8 => ?hgo)
      case hgo =>
        refine wx_aload_n (i := 0) dX9_wetsBy_127 rfl rfl ?_
        refine wx_getRG (k := 128) (t := 153) dX9_wetsBy_128 zF_X9_103 zKo_128 rfl (Nat.le_of_ble_eq_true rfl) zRf_128_36 ?_
        refine wx_iload_n (i := 3) dX9_wetsBy_131 rfl rfl ?_
        refine wx_iload dX9_wetsBy_132 rfl ?_
        refine wx_iload dX9_wetsBy_134 rfl ?_
        refine wx_S3 dX9_wetsBy_136 zPS_X9_cell zLk_X9_219 (Nat.le_of_ble_eq_true rfl) (Or.inr rfl) ?_
        refine s_X9_cell ?_
        refine wx_r1 ?_
        refine wx_iload dX9_wetsBy_139 rfl ?_
        refine wx_iastG (k := 153) dX9_wetsBy_141 zK_153 (Nat.le_of_ble_eq_true rfl) rfl ?_ ?_
        · exact ⟨zMc_lt (by omega) hl (by omega), by decide⟩
        refine wx_inc (c := 1) dX9_wetsBy_142 rfl (by decide) (Nat.le_of_ble_eq_true rfl) rfl ?_
        refine wx_goto (tgt := 29) dX9_wetsBy_145 (by decide) ?_
        rw [nI_1]
        exact ih (i + 1) _ _ _ _ (by omega) (fun c w => (zU_ne w).trans (hf c w)) (zTb_s ht hl (by omega) htop)
