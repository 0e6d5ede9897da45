/-! the grits of the reference: cell, with, the table -/
/-- the least of B and the first so many -/
def zLm (B : Nat) (f : Nat → Nat) : Nat → Nat
  | 0 => B
  | c + 1 => if f c < zLm B f c then f c else zLm B f c
theorem zLm_le (B : Nat) (f : Nat → Nat) : ∀ c, zLm B f c ≤ B
  | 0 => Nat.le_refl _
  | c + 1 => by
    have h := zLm_le B f c
    show (if f c < zLm B f c then f c else zLm B f c) ≤ B
    by_cases q : f c < zLm B f c
    · rw [if_pos q]; omega
    · rw [if_neg q]; exact h
theorem zLm_lb {B : Nat} {f : Nat → Nat} : ∀ {c j : Nat}, j < c → zLm B f c ≤ f j
  | 0, _, h => absurd h (Nat.not_lt_zero _)
  | c + 1, j, h => by
    show (if f c < zLm B f c then f c else zLm B f c) ≤ _
    by_cases e : j = c
    · subst e
      by_cases q : f j < zLm B f j
      · rw [if_pos q]; exact Nat.le_refl _
      · rw [if_neg q]; omega
    · have := zLm_lb (B := B) (f := f) (show j < c by omega)
      by_cases q : f c < zLm B f c
      · rw [if_pos q]; omega
      · rw [if_neg q]; exact this
theorem zLm_at (B : Nat) (f : Nat → Nat) : ∀ c, zLm B f c = B ∨ ∃ j, j < c ∧ zLm B f c = f j
  | 0 => Or.inl rfl
  | c + 1 => by
    show (if f c < zLm B f c then f c else zLm B f c) = B ∨ ∃ j, j < c + 1 ∧ (if f c < zLm B f c then f c else zLm B f c) = _
    by_cases q : f c < zLm B f c
    · rw [if_pos q]; exact Or.inr ⟨c, by omega, rfl⟩
    · rw [if_neg q]
      rcases zLm_at B f c with h | ⟨j, h1, h2⟩
      · exact Or.inl h
      · exact Or.inr ⟨j, by omega, h2⟩
theorem zLm_more {B : Nat} {f : Nat → Nat} {c e : Nat} (h : ∀ j, c ≤ j → j < e → B ≤ f j) (hce : c ≤ e) : zLm B f e = zLm B f c := by
  induction e with
  | zero => obtain rfl : c = 0 := by omega
            rfl
  | succ e ih =>
    by_cases q : c = e + 1
    · rw [q]
    · have g := ih (fun j a b => h j a (by omega)) (by omega)
      show (if f e < zLm B f e then f e else zLm B f e) = _
      have := h e (by omega) (by omega)
      have h2 := zLm_le B f e
      rw [if_neg (by omega)]
      exact g
/-- with w wets of a grit: F the rows behind -/
def zMw (top q : Nat) (tk : Nat → Nat) (pt : Nat → Int) (F : Nat → Nat → Nat) (g last sum w : Nat) : Nat :=
  if top < sum + w * tk g ∨ (1 ≤ w ∧ last < 6 ∧ ((w * tk g : Nat) : Int) < 3 * pt last) ∨ (w = 0 ∧ g + 1 = q) then 1000000 else F (if 1 ≤ w then g else last) (sum + w * tk g) + w
/-- the fewest wets of the last c grits -/
def zMq (D top q : Nat) (tk : Nat → Nat) (pt : Nat → Int) : Nat → Nat → Nat → Nat
  | 0, _, sum => if D ≤ sum then 0 else 1000000
  | c + 1, last, sum => zLm 1000000 (zMw top q tk pt (zMq D top q tk pt c) (q - (c + 1)) last sum) 31
theorem zMq_le (D top q : Nat) (tk : Nat → Nat) (pt : Nat → Int) : ∀ c last sum, zMq D top q tk pt c last sum ≤ 1000000
  | 0, _, sum => by
    show (if D ≤ sum then 0 else 1000000) ≤ _
    by_cases h : D ≤ sum
    · rw [if_pos h]; omega
    · rw [if_neg h]; exact Nat.le_refl _
  | c + 1, last, sum => zLm_le _ _ _
theorem zMw_le {D top q : Nat} {tk : Nat → Nat} {pt : Nat → Int} {c g last sum w : Nat} : zMw top q tk pt (zMq D top q tk pt c) g last sum w ≤ 1000000 + w := by
  unfold zMw
  by_cases h : top < sum + w * tk g ∨ (1 ≤ w ∧ last < 6 ∧ ((w * tk g : Nat) : Int) < 3 * pt last) ∨ (w = 0 ∧ g + 1 = q)
  · rw [if_pos h]; omega
  · rw [if_neg h]
    have := zMq_le D top q tk pt c (if 1 ≤ w then g else last) (sum + w * tk g)
    omega
/-- the grits of the reference -/
def zMg (pt : Nat → Int) (tk : Nat → Nat) (q : Nat) (mm : zM) : Prop := q ≤ 6 ∧ mm 128 21 = nI q ∧ (∀ k, k < 6 → mm 143 k = zi (pt k) ∧ 0 ≤ pt k ∧ pt k ≤ 200) ∧ ∀ k, k < q → mm 142 k = nI (tk k) ∧ 1 ≤ tk k ∧ tk k ≤ 100
def zMc (g last sum : Nat) : Nat := (7 * g + last) * 2101 + sum
theorem zMc_lt {g last sum : Nat} (hg : g ≤ 6) (hl : last < 7) (hs : sum < 2101) : zMc g last sum < 102949 := by unfold zMc; omega
theorem zMc_ne {g last sum g2 last2 sum2 : Nat} (hl : last < 7) (hs : sum < 2101) (hl2 : last2 < 7) (hs2 : sum2 < 2101) (h : ¬ (g = g2 ∧ last = last2 ∧ sum = sum2)) : zMc g last sum ≠ zMc g2 last2 sum2 := by unfold zMc; omega
theorem s_X9_cell {d : Nat} {K : List Value → zS → Prop} {mm : zM} {g last sum : Nat} (hK : K [.int (nI (zMc g last sum))] (zG mm)) : wm (d) mX9_cell [.int (nI g), .int (nI last), .int (nI sum)] (zG mm) K := by
  refine wm_of2 (L0 := [some (.int (nI g)), some (.int (nI last)), some (.int (nI sum))]) zCm_X9_cell (Or.inl rfl) (Nat.le_of_ble_eq_true rfl) rfl ?_
  refine wx_bipush (v := 7) dX9_cell_0 (by decide) ?_
  refine wx_iload_n (i := 0) dX9_cell_2 rfl rfl ?_
  refine wx_imul dX9_cell_3 ?_
  refine wx_iload_n (i := 1) dX9_cell_4 rfl rfl ?_
  refine wx_iadd dX9_cell_5 ?_
  refine wx_sipush (v := 2101) dX9_cell_6 (by decide) ?_
  refine wx_imul dX9_cell_9 ?_
  refine wx_iload_n (i := 2) dX9_cell_10 rfl rfl ?_
  refine wx_iadd dX9_cell_11 ?_
  rw [show (7 : Int32) = nI 7 from rfl, show (2101 : Int32) = nI 2101 from rfl, nI_mul, nI_add, nI_mul, nI_add]
  refine wx_iret dX9_cell_12 rfl rfl (Or.inl rfl) ?_
  exact hK
theorem s_X9_with {d : Nat} {K : List Value → zS → Prop} {mm : zM} {pt : Nat → Int} {tk : Nat → Nat} {q top : Nat} {F : Nat → Nat → Nat} {g last sum w : Nat} (hC : zMg pt tk q mm) (hg : g < q) (hl : last < 7) (htop : top ≤ 2100) (hs : sum ≤ top) (hw : w ≤ 30) (hF : ∀ l s, l < 7 → s ≤ top → mm 153 (zMc (g + 1) l s) = nI (F l s) ∧ F l s ≤ 1000000) (hK : K [.int (nI (zMw top q tk pt F g last sum w))] (zG mm))  : wm (d + 1) mX9_with [.ref 128, .int (nI g), .int (nI last), .int (nI sum), .int (nI w), .int (nI top)] (zG mm) K := by
  obtain ⟨hq6, hqq, hpp, htt⟩ := hC
  have hT := htt g hg
  have hmu : w * tk g ≤ 30 * 100 := Nat.mul_le_mul hw hT.2.2
  refine wm_of2 (L0 := [some (.ref 128), some (.int (nI g)), some (.int (nI last)), some (.int (nI sum)), some (.int (nI w)), some (.int (nI top)), none]) zCm_X9_with (Or.inl rfl) (Nat.le_of_ble_eq_true rfl) rfl ?_
  refine wx_iload_n (i := 3) dX9_with_0 rfl rfl ?_
  refine wx_iload dX9_with_1 rfl ?_
  refine wx_aload_n (i := 0) dX9_with_3 rfl rfl ?_
  refine wx_getRG (k := 128) (t := 142) dX9_with_4 zF_X9_68 zKo_128 rfl (Nat.le_of_ble_eq_true rfl) zRf_128_22 ?_
  refine wx_iload_n (i := 1) dX9_with_7 rfl rfl ?_
  refine wx_ialdG (k := 142) dX9_with_8 zK_142 (Nat.le_of_ble_eq_true rfl) rfl ?_ ?_
  · exact ⟨by omega, by decide⟩
  refine wx_imul dX9_with_9 ?_
  refine wx_iadd dX9_with_10 ?_
  rw [hT.1, nI_mul, nI_add]
  refine wx_istore dX9_with_11 (Nat.le_of_ble_eq_true rfl) rfl ?_
  refine wx_iload dX9_with_13 rfl ?_
  refine wx_iload dX9_with_15 rfl ?_
  refine wx_icmp_gt (tgt := 66) dX9_with_17 (by decide) (fun h17 => ?_) (fun h17 => ?_)
  · rw [nI_ltI (by omega) (by omega)] at h17
    refine wx_ldc dX9_with_66 zKc_X9_162 ?_
    refine wx_iret dX9_with_68 rfl rfl (Or.inl rfl) ?_
    refine zki hK (congrArg nI ?_)
    unfold zMw
    rw [if_pos (by omega)]
  · rw [nI_ltI (by omega) (by omega)] at h17
    refine wx_iload dX9_with_20 rfl ?_
    refine wx_if_le (tgt := 51) dX9_with_22 (by decide) (fun h22 => ?_) (fun h22 => ?_)
    · rw [show (0 : Int32) = nI 0 from rfl, nI_leI (by omega) (by omega)] at h22
      refine wx_iload dX9_with_51 rfl ?_
      refine wx_if_ne (tgt := 69) dX9_with_53 (by decide) (fun h53 => ?_) (fun h53 => ?_)
      · rw [show (0 : Int32) = nI 0 from rfl, nI_eq (by omega) (by omega)] at h53
        refine wx_aload_n (i := 0) dX9_with_69 rfl rfl ?_
        refine wx_getRG (k := 128) (t := 153) dX9_with_70 zF_X9_103 zKo_128 rfl (Nat.le_of_ble_eq_true rfl) zRf_128_36 ?_
        refine wx_iload_n (i := 1) dX9_with_73 rfl rfl ?_
        refine wx_iconst (v := 1) dX9_with_74 (by decide) ?_
        refine wx_iadd dX9_with_75 ?_
        rw [nI_1]
        refine wx_iload dX9_with_76 rfl ?_
        refine wx_if_le (tgt := 85) dX9_with_78 (by decide) (fun h78 => ?_) (fun h78 => ?_)
        · rw [show (0 : Int32) = nI 0 from rfl, nI_leI (by omega) (by omega)] at h78
          refine wx_iload_n (i := 2) dX9_with_85 rfl rfl ?_
          refine wx_iload dX9_with_86 rfl ?_
          refine wx_S3 dX9_with_88 zPS_X9_cell zLk_X9_219 (Nat.le_of_ble_eq_true rfl) (Or.inr rfl) ?_
          refine s_X9_cell ?_
          refine wx_r1 ?_
          refine wx_ialdG (k := 153) dX9_with_91 zK_153 (Nat.le_of_ble_eq_true rfl) rfl ?_ ?_
          · exact ⟨zMc_lt (by omega) (by omega) (by omega), by decide⟩
          refine wx_iload dX9_with_92 rfl ?_
          refine wx_iadd dX9_with_94 ?_
          refine wx_iret dX9_with_95 rfl rfl (Or.inl rfl) ?_
          first | (exfalso; omega) | (rw [(hF _ _ (by first | exact hl | omega) (by omega)).1, nI_add]; refine zki hK (congrArg nI ?_); unfold zMw; rw [if_neg (by omega)]; first | rw [if_pos (show 1 ≤ w by omega)] | rw [if_neg (show ¬ 1 ≤ w by omega)])
        · rw [show (0 : Int32) = nI 0 from rfl, nI_leI (by omega) (by omega)] at h78
          refine wx_iload_n (i := 1) dX9_with_81 rfl rfl ?_
          refine wx_goto (tgt := 86) dX9_with_82 (by decide) ?_
          refine wx_iload dX9_with_86 rfl ?_
          refine wx_S3 dX9_with_88 zPS_X9_cell zLk_X9_219 (Nat.le_of_ble_eq_true rfl) (Or.inr rfl) ?_
          refine s_X9_cell ?_
          refine wx_r1 ?_
          refine wx_ialdG (k := 153) dX9_with_91 zK_153 (Nat.le_of_ble_eq_true rfl) rfl ?_ ?_
          · exact ⟨zMc_lt (by omega) (by omega) (by omega), by decide⟩
          refine wx_iload dX9_with_92 rfl ?_
          refine wx_iadd dX9_with_94 ?_
          refine wx_iret dX9_with_95 rfl rfl (Or.inl rfl) ?_
          first | (exfalso; omega) | (rw [(hF _ _ (by first | exact hl | omega) (by omega)).1, nI_add]; refine zki hK (congrArg nI ?_); unfold zMw; rw [if_neg (by omega)]; first | rw [if_pos (show 1 ≤ w by omega)] | rw [if_neg (show ¬ 1 ≤ w by omega)])
      · rw [show (0 : Int32) = nI 0 from rfl, nI_eq (by omega) (by omega)] at h53
        refine wx_iload_n (i := 1) dX9_with_56 rfl rfl ?_
        refine wx_aload_n (i := 0) dX9_with_57 rfl rfl ?_
        refine wx_getIG (k := 128) dX9_with_58 zF_X9_213 zKo_128 rfl (Nat.le_of_ble_eq_true rfl) ?_
        refine wx_iconst (v := 1) dX9_with_61 (by decide) ?_
        refine wx_isub dX9_with_62 ?_
        rw [hqq, zl_1, zi_nI q, zi_sub]
        refine wx_icmp_ne (tgt := 69) dX9_with_63 (by decide) (fun h63 => ?_) (fun h63 => ?_)
        · rw [zi_nI, zi_eq (by omega) (by omega)] at h63
          refine wx_aload_n (i := 0) dX9_with_69 rfl rfl ?_
          refine wx_getRG (k := 128) (t := 153) dX9_with_70 zF_X9_103 zKo_128 rfl (Nat.le_of_ble_eq_true rfl) zRf_128_36 ?_
          refine wx_iload_n (i := 1) dX9_with_73 rfl rfl ?_
          refine wx_iconst (v := 1) dX9_with_74 (by decide) ?_
          refine wx_iadd dX9_with_75 ?_
          rw [nI_1]
          refine wx_iload dX9_with_76 rfl ?_
          refine wx_if_le (tgt := 85) dX9_with_78 (by decide) (fun h78 => ?_) (fun h78 => ?_)
          · rw [show (0 : Int32) = nI 0 from rfl, nI_leI (by omega) (by omega)] at h78
            refine wx_iload_n (i := 2) dX9_with_85 rfl rfl ?_
            refine wx_iload dX9_with_86 rfl ?_
            refine wx_S3 dX9_with_88 zPS_X9_cell zLk_X9_219 (Nat.le_of_ble_eq_true rfl) (Or.inr rfl) ?_
            refine s_X9_cell ?_
            refine wx_r1 ?_
            refine wx_ialdG (k := 153) dX9_with_91 zK_153 (Nat.le_of_ble_eq_true rfl) rfl ?_ ?_
            · exact ⟨zMc_lt (by omega) (by omega) (by omega), by decide⟩
            refine wx_iload dX9_with_92 rfl ?_
            refine wx_iadd dX9_with_94 ?_
            refine wx_iret dX9_with_95 rfl rfl (Or.inl rfl) ?_
            first | (exfalso; omega) | (rw [(hF _ _ (by first | exact hl | omega) (by omega)).1, nI_add]; refine zki hK (congrArg nI ?_); unfold zMw; rw [if_neg (by omega)]; first | rw [if_pos (show 1 ≤ w by omega)] | rw [if_neg (show ¬ 1 ≤ w by omega)])
          · rw [show (0 : Int32) = nI 0 from rfl, nI_leI (by omega) (by omega)] at h78
            refine wx_iload_n (i := 1) dX9_with_81 rfl rfl ?_
            refine wx_goto (tgt := 86) dX9_with_82 (by decide) ?_
            refine wx_iload dX9_with_86 rfl ?_
            refine wx_S3 dX9_with_88 zPS_X9_cell zLk_X9_219 (Nat.le_of_ble_eq_true rfl) (Or.inr rfl) ?_
            refine s_X9_cell ?_
            refine wx_r1 ?_
            refine wx_ialdG (k := 153) dX9_with_91 zK_153 (Nat.le_of_ble_eq_true rfl) rfl ?_ ?_
            · exact ⟨zMc_lt (by omega) (by omega) (by omega), by decide⟩
            refine wx_iload dX9_with_92 rfl ?_
            refine wx_iadd dX9_with_94 ?_
            refine wx_iret dX9_with_95 rfl rfl (Or.inl rfl) ?_
            first | (exfalso; omega) | (rw [(hF _ _ (by first | exact hl | omega) (by omega)).1, nI_add]; refine zki hK (congrArg nI ?_); unfold zMw; rw [if_neg (by omega)]; first | rw [if_pos (show 1 ≤ w by omega)] | rw [if_neg (show ¬ 1 ≤ w by omega)])
        · rw [zi_nI, zi_eq (by omega) (by omega)] at h63
          refine wx_ldc dX9_with_66 zKc_X9_162 ?_
          refine wx_iret dX9_with_68 rfl rfl (Or.inl rfl) ?_
          refine zki hK (congrArg nI ?_)
          unfold zMw
          rw [if_pos (by omega)]
    · rw [show (0 : Int32) = nI 0 from rfl, nI_leI (by omega) (by omega)] at h22
      refine wx_iload_n (i := 2) dX9_with_25 rfl rfl ?_
      refine wx_bipush (v := 6) dX9_with_26 (by decide) ?_
      refine wx_icmp_ge (tgt := 51) dX9_with_28 (by decide) (fun h28 => ?_) (fun h28 => ?_)
      · have h28 := (nI_leI (a := 6) (b := last) (by omega) (by omega)).mp h28
        refine wx_iload dX9_with_51 rfl ?_
        refine wx_if_ne (tgt := 69) dX9_with_53 (by decide) (fun h53 => ?_) (fun h53 => ?_)
        · rw [show (0 : Int32) = nI 0 from rfl, nI_eq (by omega) (by omega)] at h53
          refine wx_aload_n (i := 0) dX9_with_69 rfl rfl ?_
          refine wx_getRG (k := 128) (t := 153) dX9_with_70 zF_X9_103 zKo_128 rfl (Nat.le_of_ble_eq_true rfl) zRf_128_36 ?_
          refine wx_iload_n (i := 1) dX9_with_73 rfl rfl ?_
          refine wx_iconst (v := 1) dX9_with_74 (by decide) ?_
          refine wx_iadd dX9_with_75 ?_
          rw [nI_1]
          refine wx_iload dX9_with_76 rfl ?_
          refine wx_if_le (tgt := 85) dX9_with_78 (by decide) (fun h78 => ?_) (fun h78 => ?_)
          · rw [show (0 : Int32) = nI 0 from rfl, nI_leI (by omega) (by omega)] at h78
            refine wx_iload_n (i := 2) dX9_with_85 rfl rfl ?_
            refine wx_iload dX9_with_86 rfl ?_
            refine wx_S3 dX9_with_88 zPS_X9_cell zLk_X9_219 (Nat.le_of_ble_eq_true rfl) (Or.inr rfl) ?_
            refine s_X9_cell ?_
            refine wx_r1 ?_
            refine wx_ialdG (k := 153) dX9_with_91 zK_153 (Nat.le_of_ble_eq_true rfl) rfl ?_ ?_
            · exact ⟨zMc_lt (by omega) (by omega) (by omega), by decide⟩
            refine wx_iload dX9_with_92 rfl ?_
            refine wx_iadd dX9_with_94 ?_
            refine wx_iret dX9_with_95 rfl rfl (Or.inl rfl) ?_
            first | (exfalso; omega) | (rw [(hF _ _ (by first | exact hl | omega) (by omega)).1, nI_add]; refine zki hK (congrArg nI ?_); unfold zMw; rw [if_neg (by omega)]; first | rw [if_pos (show 1 ≤ w by omega)] | rw [if_neg (show ¬ 1 ≤ w by omega)])
          · rw [show (0 : Int32) = nI 0 from rfl, nI_leI (by omega) (by omega)] at h78
            refine wx_iload_n (i := 1) dX9_with_81 rfl rfl ?_
            refine wx_goto (tgt := 86) dX9_with_82 (by decide) ?_
            refine wx_iload dX9_with_86 rfl ?_
            refine wx_S3 dX9_with_88 zPS_X9_cell zLk_X9_219 (Nat.le_of_ble_eq_true rfl) (Or.inr rfl) ?_
            refine s_X9_cell ?_
            refine wx_r1 ?_
            refine wx_ialdG (k := 153) dX9_with_91 zK_153 (Nat.le_of_ble_eq_true rfl) rfl ?_ ?_
            · exact ⟨zMc_lt (by omega) (by omega) (by omega), by decide⟩
            refine wx_iload dX9_with_92 rfl ?_
            refine wx_iadd dX9_with_94 ?_
            refine wx_iret dX9_with_95 rfl rfl (Or.inl rfl) ?_
            first | (exfalso; omega) | (rw [(hF _ _ (by first | exact hl | omega) (by omega)).1, nI_add]; refine zki hK (congrArg nI ?_); unfold zMw; rw [if_neg (by omega)]; first | rw [if_pos (show 1 ≤ w by omega)] | rw [if_neg (show ¬ 1 ≤ w by omega)])
        · rw [show (0 : Int32) = nI 0 from rfl, nI_eq (by omega) (by omega)] at h53
          refine wx_iload_n (i := 1) dX9_with_56 rfl rfl ?_
          refine wx_aload_n (i := 0) dX9_with_57 rfl rfl ?_
          refine wx_getIG (k := 128) dX9_with_58 zF_X9_213 zKo_128 rfl (Nat.le_of_ble_eq_true rfl) ?_
          refine wx_iconst (v := 1) dX9_with_61 (by decide) ?_
          refine wx_isub dX9_with_62 ?_
          rw [hqq, zl_1, zi_nI q, zi_sub]
          refine wx_icmp_ne (tgt := 69) dX9_with_63 (by decide) (fun h63 => ?_) (fun h63 => ?_)
          · rw [zi_nI, zi_eq (by omega) (by omega)] at h63
            refine wx_aload_n (i := 0) dX9_with_69 rfl rfl ?_
            refine wx_getRG (k := 128) (t := 153) dX9_with_70 zF_X9_103 zKo_128 rfl (Nat.le_of_ble_eq_true rfl) zRf_128_36 ?_
            refine wx_iload_n (i := 1) dX9_with_73 rfl rfl ?_
            refine wx_iconst (v := 1) dX9_with_74 (by decide) ?_
            refine wx_iadd dX9_with_75 ?_
            rw [nI_1]
            refine wx_iload dX9_with_76 rfl ?_
            refine wx_if_le (tgt := 85) dX9_with_78 (by decide) (fun h78 => ?_) (fun h78 => ?_)
            · rw [show (0 : Int32) = nI 0 from rfl, nI_leI (by omega) (by omega)] at h78
              refine wx_iload_n (i := 2) dX9_with_85 rfl rfl ?_
              refine wx_iload dX9_with_86 rfl ?_
              refine wx_S3 dX9_with_88 zPS_X9_cell zLk_X9_219 (Nat.le_of_ble_eq_true rfl) (Or.inr rfl) ?_
              refine s_X9_cell ?_
              refine wx_r1 ?_
              refine wx_ialdG (k := 153) dX9_with_91 zK_153 (Nat.le_of_ble_eq_true rfl) rfl ?_ ?_
              · exact ⟨zMc_lt (by omega) (by omega) (by omega), by decide⟩
              refine wx_iload dX9_with_92 rfl ?_
              refine wx_iadd dX9_with_94 ?_
              refine wx_iret dX9_with_95 rfl rfl (Or.inl rfl) ?_
              first | (exfalso; omega) | (rw [(hF _ _ (by first | exact hl | omega) (by omega)).1, nI_add]; refine zki hK (congrArg nI ?_); unfold zMw; rw [if_neg (by omega)]; first | rw [if_pos (show 1 ≤ w by omega)] | rw [if_neg (show ¬ 1 ≤ w by omega)])
            · rw [show (0 : Int32) = nI 0 from rfl, nI_leI (by omega) (by omega)] at h78
              refine wx_iload_n (i := 1) dX9_with_81 rfl rfl ?_
              refine wx_goto (tgt := 86) dX9_with_82 (by decide) ?_
              refine wx_iload dX9_with_86 rfl ?_
              refine wx_S3 dX9_with_88 zPS_X9_cell zLk_X9_219 (Nat.le_of_ble_eq_true rfl) (Or.inr rfl) ?_
              refine s_X9_cell ?_
              refine wx_r1 ?_
              refine wx_ialdG (k := 153) dX9_with_91 zK_153 (Nat.le_of_ble_eq_true rfl) rfl ?_ ?_
              · exact ⟨zMc_lt (by omega) (by omega) (by omega), by decide⟩
              refine wx_iload dX9_with_92 rfl ?_
              refine wx_iadd dX9_with_94 ?_
              refine wx_iret dX9_with_95 rfl rfl (Or.inl rfl) ?_
              first | (exfalso; omega) | (rw [(hF _ _ (by first | exact hl | omega) (by omega)).1, nI_add]; refine zki hK (congrArg nI ?_); unfold zMw; rw [if_neg (by omega)]; first | rw [if_pos (show 1 ≤ w by omega)] | rw [if_neg (show ¬ 1 ≤ w by omega)])
          · rw [zi_nI, zi_eq (by omega) (by omega)] at h63
            refine wx_ldc dX9_with_66 zKc_X9_162 ?_
            refine wx_iret dX9_with_68 rfl rfl (Or.inl rfl) ?_
            refine zki hK (congrArg nI ?_)
            unfold zMw
            rw [if_pos (by omega)]
      · have h28 : ¬ 6 ≤ last := fun w2 => h28 (nI_le w2 (by omega))
        have hpl := hpp last (by omega)
        refine wx_iload dX9_with_31 rfl ?_
        refine wx_aload_n (i := 0) dX9_with_33 rfl rfl ?_
        refine wx_getRG (k := 128) (t := 142) dX9_with_34 zF_X9_68 zKo_128 rfl (Nat.le_of_ble_eq_true rfl) zRf_128_22 ?_
        refine wx_iload_n (i := 1) dX9_with_37 rfl rfl ?_
        refine wx_ialdG (k := 142) dX9_with_38 zK_142 (Nat.le_of_ble_eq_true rfl) rfl ?_ ?_
        · exact ⟨by omega, by decide⟩
        refine wx_imul dX9_with_39 ?_
        rw [hT.1, nI_mul]
        refine wx_iconst (v := 3) dX9_with_40 (by decide) ?_
        refine wx_aload_n (i := 0) dX9_with_41 rfl rfl ?_
        refine wx_getRG (k := 128) (t := 143) dX9_with_42 zF_X9_71 zKo_128 rfl (Nat.le_of_ble_eq_true rfl) zRf_128_23 ?_
        refine wx_iload_n (i := 2) dX9_with_45 rfl rfl ?_
        refine wx_ialdG (k := 143) dX9_with_46 zK_143 (Nat.le_of_ble_eq_true rfl) rfl ?_ ?_
        · exact ⟨by omega, by decide⟩
        refine wx_imul dX9_with_47 ?_
        rw [(hpp last (by omega)).1, zl_3, zi_mul]
        refine wx_icmp_lt (tgt := 66) dX9_with_48 (by decide) (fun h48 => ?_) (fun h48 => ?_)
        · rw [zi_nI, zi_lt (by omega) (by omega)] at h48
          refine wx_ldc dX9_with_66 zKc_X9_162 ?_
          refine wx_iret dX9_with_68 rfl rfl (Or.inl rfl) ?_
          refine zki hK (congrArg nI ?_)
          unfold zMw
          rw [if_pos (by omega)]
        · rw [zi_nI, zi_lt (by omega) (by omega)] at h48
          refine wx_iload dX9_with_51 rfl ?_
          refine wx_if_ne (tgt := 69) dX9_with_53 (by decide) (fun h53 => ?_) (fun h53 => ?_)
          · rw [show (0 : Int32) = nI 0 from rfl, nI_eq (by omega) (by omega)] at h53
            refine wx_aload_n (i := 0) dX9_with_69 rfl rfl ?_
            refine wx_getRG (k := 128) (t := 153) dX9_with_70 zF_X9_103 zKo_128 rfl (Nat.le_of_ble_eq_true rfl) zRf_128_36 ?_
            refine wx_iload_n (i := 1) dX9_with_73 rfl rfl ?_
            refine wx_iconst (v := 1) dX9_with_74 (by decide) ?_
            refine wx_iadd dX9_with_75 ?_
            rw [nI_1]
            refine wx_iload dX9_with_76 rfl ?_
            refine wx_if_le (tgt := 85) dX9_with_78 (by decide) (fun h78 => ?_) (fun h78 => ?_)
            · rw [show (0 : Int32) = nI 0 from rfl, nI_leI (by omega) (by omega)] at h78
              refine wx_iload_n (i := 2) dX9_with_85 rfl rfl ?_
              refine wx_iload dX9_with_86 rfl ?_
              refine wx_S3 dX9_with_88 zPS_X9_cell zLk_X9_219 (Nat.le_of_ble_eq_true rfl) (Or.inr rfl) ?_
              refine s_X9_cell ?_
              refine wx_r1 ?_
              refine wx_ialdG (k := 153) dX9_with_91 zK_153 (Nat.le_of_ble_eq_true rfl) rfl ?_ ?_
              · exact ⟨zMc_lt (by omega) (by omega) (by omega), by decide⟩
              refine wx_iload dX9_with_92 rfl ?_
              refine wx_iadd dX9_with_94 ?_
              refine wx_iret dX9_with_95 rfl rfl (Or.inl rfl) ?_
              first | (exfalso; omega) | (rw [(hF _ _ (by first | exact hl | omega) (by omega)).1, nI_add]; refine zki hK (congrArg nI ?_); unfold zMw; rw [if_neg (by omega)]; first | rw [if_pos (show 1 ≤ w by omega)] | rw [if_neg (show ¬ 1 ≤ w by omega)])
            · rw [show (0 : Int32) = nI 0 from rfl, nI_leI (by omega) (by omega)] at h78
              refine wx_iload_n (i := 1) dX9_with_81 rfl rfl ?_
              refine wx_goto (tgt := 86) dX9_with_82 (by decide) ?_
              refine wx_iload dX9_with_86 rfl ?_
              refine wx_S3 dX9_with_88 zPS_X9_cell zLk_X9_219 (Nat.le_of_ble_eq_true rfl) (Or.inr rfl) ?_
              refine s_X9_cell ?_
              refine wx_r1 ?_
              refine wx_ialdG (k := 153) dX9_with_91 zK_153 (Nat.le_of_ble_eq_true rfl) rfl ?_ ?_
              · exact ⟨zMc_lt (by omega) (by omega) (by omega), by decide⟩
              refine wx_iload dX9_with_92 rfl ?_
              refine wx_iadd dX9_with_94 ?_
              refine wx_iret dX9_with_95 rfl rfl (Or.inl rfl) ?_
              first | (exfalso; omega) | (rw [(hF _ _ (by first | exact hl | omega) (by omega)).1, nI_add]; refine zki hK (congrArg nI ?_); unfold zMw; rw [if_neg (by omega)]; first | rw [if_pos (show 1 ≤ w by omega)] | rw [if_neg (show ¬ 1 ≤ w by omega)])
          · rw [show (0 : Int32) = nI 0 from rfl, nI_eq (by omega) (by omega)] at h53
            refine wx_iload_n (i := 1) dX9_with_56 rfl rfl ?_
            refine wx_aload_n (i := 0) dX9_with_57 rfl rfl ?_
            refine wx_getIG (k := 128) dX9_with_58 zF_X9_213 zKo_128 rfl (Nat.le_of_ble_eq_true rfl) ?_
            refine wx_iconst (v := 1) dX9_with_61 (by decide) ?_
            refine wx_isub dX9_with_62 ?_
            rw [hqq, zl_1, zi_nI q, zi_sub]
            refine wx_icmp_ne (tgt := 69) dX9_with_63 (by decide) (fun h63 => ?_) (fun h63 => ?_)
            · rw [zi_nI, zi_eq (by omega) (by omega)] at h63
              refine wx_aload_n (i := 0) dX9_with_69 rfl rfl ?_
              refine wx_getRG (k := 128) (t := 153) dX9_with_70 zF_X9_103 zKo_128 rfl (Nat.le_of_ble_eq_true rfl) zRf_128_36 ?_
              refine wx_iload_n (i := 1) dX9_with_73 rfl rfl ?_
              refine wx_iconst (v := 1) dX9_with_74 (by decide) ?_
              refine wx_iadd dX9_with_75 ?_
              rw [nI_1]
              refine wx_iload dX9_with_76 rfl ?_
              refine wx_if_le (tgt := 85) dX9_with_78 (by decide) (fun h78 => ?_) (fun h78 => ?_)
              · rw [show (0 : Int32) = nI 0 from rfl, nI_leI (by omega) (by omega)] at h78
                refine wx_iload_n (i := 2) dX9_with_85 rfl rfl ?_
                refine wx_iload dX9_with_86 rfl ?_
                refine wx_S3 dX9_with_88 zPS_X9_cell zLk_X9_219 (Nat.le_of_ble_eq_true rfl) (Or.inr rfl) ?_
                refine s_X9_cell ?_
                refine wx_r1 ?_
                refine wx_ialdG (k := 153) dX9_with_91 zK_153 (Nat.le_of_ble_eq_true rfl) rfl ?_ ?_
                · exact ⟨zMc_lt (by omega) (by omega) (by omega), by decide⟩
                refine wx_iload dX9_with_92 rfl ?_
                refine wx_iadd dX9_with_94 ?_
                refine wx_iret dX9_with_95 rfl rfl (Or.inl rfl) ?_
                first | (exfalso; omega) | (rw [(hF _ _ (by first | exact hl | omega) (by omega)).1, nI_add]; refine zki hK (congrArg nI ?_); unfold zMw; rw [if_neg (by omega)]; first | rw [if_pos (show 1 ≤ w by omega)] | rw [if_neg (show ¬ 1 ≤ w by omega)])
              · rw [show (0 : Int32) = nI 0 from rfl, nI_leI (by omega) (by omega)] at h78
                refine wx_iload_n (i := 1) dX9_with_81 rfl rfl ?_
                refine wx_goto (tgt := 86) dX9_with_82 (by decide) ?_
                refine wx_iload dX9_with_86 rfl ?_
                refine wx_S3 dX9_with_88 zPS_X9_cell zLk_X9_219 (Nat.le_of_ble_eq_true rfl) (Or.inr rfl) ?_
                refine s_X9_cell ?_
                refine wx_r1 ?_
                refine wx_ialdG (k := 153) dX9_with_91 zK_153 (Nat.le_of_ble_eq_true rfl) rfl ?_ ?_
                · exact ⟨zMc_lt (by omega) (by omega) (by omega), by decide⟩
                refine wx_iload dX9_with_92 rfl ?_
                refine wx_iadd dX9_with_94 ?_
                refine wx_iret dX9_with_95 rfl rfl (Or.inl rfl) ?_
                first | (exfalso; omega) | (rw [(hF _ _ (by first | exact hl | omega) (by omega)).1, nI_add]; refine zki hK (congrArg nI ?_); unfold zMw; rw [if_neg (by omega)]; first | rw [if_pos (show 1 ≤ w by omega)] | rw [if_neg (show ¬ 1 ≤ w by omega)])
            · rw [zi_nI, zi_eq (by omega) (by omega)] at h63
              refine wx_ldc dX9_with_66 zKc_X9_162 ?_
              refine wx_iret dX9_with_68 rfl rfl (Or.inl rfl) ?_
              refine zki hK (congrArg nI ?_)
              unfold zMw
              rw [if_pos (by omega)]
