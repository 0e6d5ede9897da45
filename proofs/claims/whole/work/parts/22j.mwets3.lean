/-! the grits of the reference: wets -/
/-- the greatest number up to which f is v; else 0 -/
def zGt (f : Nat → Nat) (v : Nat) : Nat → Nat
  | 0 => 0
  | w + 1 => if f (w + 1) = v then w + 1 else zGt f v w
theorem zGt_ok {f : Nat → Nat} {v : Nat} : ∀ {n : Nat}, (∃ w, w ≤ n ∧ f w = v) → f (zGt f v n) = v ∧ zGt f v n ≤ n
  | 0, h => by
    obtain ⟨w, a, b⟩ := h
    obtain rfl : w = 0 := by omega
    exact ⟨b, Nat.le_refl _⟩
  | n + 1, h => by
    show f (if f (n + 1) = v then n + 1 else zGt f v n) = v ∧ (if f (n + 1) = v then n + 1 else zGt f v n) ≤ n + 1
    by_cases q : f (n + 1) = v
    · rw [if_pos q]; exact ⟨q, Nat.le_refl _⟩
    · rw [if_neg q]
      obtain ⟨w, a, b⟩ := h
      have : w ≠ n + 1 := fun e => q (e ▸ b)
      have h2 := zGt_ok (n := n) ⟨w, by omega, b⟩
      exact ⟨h2.1, by omega⟩
/-- the way of the fewest wets, behind so many grits: the latest, what is taken, the wets of the last -/
def zTr (D S q : Nat) (tk : Nat → Nat) (pt : Nat → Int) : Nat → Nat × Nat × Nat
  | 0 => (6, 0, if q = 0 then 1000000 else zMq D (D + S) q tk pt q 6 0)
  | g + 1 =>
    let t := zTr D S q tk pt g
    let w := zGt (zMw (D + S) q tk pt (zMq D (D + S) q tk pt (q - (g + 1))) g t.1 t.2.1) (zMq D (D + S) q tk pt (q - g) t.1 t.2.1) 30
    (if 1 ≤ w then g else t.1, t.2.1 + w * tk g, w)
/-- the answer of wets, behind j grits -/
def zAw (D S q : Nat) (tk : Nat → Nat) (pt : Nat → Int) (j : Nat) : Int32 := if (zTr D S q tk pt 0).2.2 < 1000000 then nI (zTr D S q tk pt j).2.2 else -4
theorem zMq_s {D top q : Nat} {tk : Nat → Nat} {pt : Nat → Int} {g l s : Nat} (hg : g < q) : zMq D top q tk pt (q - g) l s = zLm 1000000 (zMw top q tk pt (zMq D top q tk pt (q - (g + 1))) g l s) 31 := by
  rw [show q - g = (q - (g + 1)) + 1 by omega]
  show zLm 1000000 (zMw top q tk pt _ (q - (q - (g + 1) + 1)) l s) 31 = _
  rw [show q - (q - (g + 1) + 1) = g by omega]
theorem zMw_fin {top q : Nat} {tk : Nat → Nat} {pt : Nat → Int} {F : Nat → Nat → Nat} {g l s w : Nat} (h : zMw top q tk pt F g l s w < 1000000) : s + w * tk g ≤ top ∧ ¬ (1 ≤ w ∧ l < 6 ∧ ((w * tk g : Nat) : Int) < 3 * pt l) ∧ ¬ (w = 0 ∧ g + 1 = q) ∧ F (if 1 ≤ w then g else l) (s + w * tk g) + w = zMw top q tk pt F g l s w := by
  unfold zMw at h ⊢
  by_cases q2 : top < s + w * tk g ∨ (1 ≤ w ∧ l < 6 ∧ ((w * tk g : Nat) : Int) < 3 * pt l) ∨ (w = 0 ∧ g + 1 = q)
  · rw [if_pos q2] at h; omega
  · rw [if_neg q2]
    exact ⟨by omega, fun e => q2 (Or.inr (Or.inl e)), fun e => q2 (Or.inr (Or.inr e)), rfl⟩
/-- what the way is at, step by step -/
theorem zTr_ok {D S q : Nat} {tk : Nat → Nat} {pt : Nat → Int} (h0 : (zTr D S q tk pt 0).2.2 < 1000000) (hq : q ≤ 6) : ∀ g, g ≤ q → (zTr D S q tk pt g).1 < 7 ∧ (zTr D S q tk pt g).2.1 ≤ D + S ∧ zMq D (D + S) q tk pt (q - g) (zTr D S q tk pt g).1 (zTr D S q tk pt g).2.1 < 1000000
  | 0, _ => by
    refine ⟨by show 6 < 7; omega, Nat.zero_le _, ?_⟩
    show zMq D (D + S) q tk pt (q - 0) 6 0 < 1000000
    have h1 : (if q = 0 then 1000000 else zMq D (D + S) q tk pt q 6 0) < 1000000 := h0
    by_cases e : q = 0
    · rw [if_pos e] at h1; omega
    · rw [if_neg e] at h1; exact h1
  | g + 1, hg => by
    obtain ⟨a1, a2, a3⟩ := zTr_ok h0 hq g (by omega)
    have hs := zMq_s (D := D) (top := D + S) (tk := tk) (pt := pt) (l := (zTr D S q tk pt g).1) (s := (zTr D S q tk pt g).2.1) (show g < q by omega)
    rw [hs] at a3
    have hex : ∃ w, w ≤ 30 ∧ zMw (D + S) q tk pt (zMq D (D + S) q tk pt (q - (g + 1))) g (zTr D S q tk pt g).1 (zTr D S q tk pt g).2.1 w = zMq D (D + S) q tk pt (q - g) (zTr D S q tk pt g).1 (zTr D S q tk pt g).2.1 := by
      rcases zLm_at 1000000 (zMw (D + S) q tk pt (zMq D (D + S) q tk pt (q - (g + 1))) g (zTr D S q tk pt g).1 (zTr D S q tk pt g).2.1) 31 with e | ⟨j, e1, e2⟩
      · rw [e] at a3; omega
      · exact ⟨j, by omega, by rw [hs]; exact e2.symm⟩
    have hw := zGt_ok hex
    rw [← hs] at a3
    have hf := zMw_fin (w := zGt (zMw (D + S) q tk pt (zMq D (D + S) q tk pt (q - (g + 1))) g (zTr D S q tk pt g).1 (zTr D S q tk pt g).2.1) (zMq D (D + S) q tk pt (q - g) (zTr D S q tk pt g).1 (zTr D S q tk pt g).2.1) 30) (by rw [hw.1]; exact a3)
    refine ⟨?_, hf.1, ?_⟩
    · show (if 1 ≤ zGt _ _ 30 then g else (zTr D S q tk pt g).1) < 7
      by_cases e : 1 ≤ zGt (zMw (D + S) q tk pt (zMq D (D + S) q tk pt (q - (g + 1))) g (zTr D S q tk pt g).1 (zTr D S q tk pt g).2.1) (zMq D (D + S) q tk pt (q - g) (zTr D S q tk pt g).1 (zTr D S q tk pt g).2.1) 30
      · rw [if_pos e]; omega
      · rw [if_neg e]; exact a1
    · have h4 := hf.2.2.2
      rw [hw.1] at h4
      show zMq D (D + S) q tk pt (q - (g + 1)) (if 1 ≤ zGt _ _ 30 then g else (zTr D S q tk pt g).1) ((zTr D S q tk pt g).2.1 + zGt _ _ 30 * tk g) < 1000000
      omega
theorem zTr_ex {D S q : Nat} {tk : Nat → Nat} {pt : Nat → Int} (h0 : (zTr D S q tk pt 0).2.2 < 1000000) (hq : q ≤ 6) {g : Nat} (hg : g < q) : ∃ w, w ≤ 30 ∧ zMw (D + S) q tk pt (zMq D (D + S) q tk pt (q - (g + 1))) g (zTr D S q tk pt g).1 (zTr D S q tk pt g).2.1 w = zMq D (D + S) q tk pt (q - g) (zTr D S q tk pt g).1 (zTr D S q tk pt g).2.1 := by
  have a3 := (zTr_ok h0 hq g (by omega)).2.2
  have hs := zMq_s (D := D) (top := D + S) (tk := tk) (pt := pt) (l := (zTr D S q tk pt g).1) (s := (zTr D S q tk pt g).2.1) hg
  rw [hs] at a3 ⊢
  rcases zLm_at 1000000 (zMw (D + S) q tk pt (zMq D (D + S) q tk pt (q - (g + 1))) g (zTr D S q tk pt g).1 (zTr D S q tk pt g).2.1) 31 with e | ⟨j, e1, e2⟩
  · rw [e] at a3; omega
  · exact ⟨j, by omega, e2.symm⟩
theorem lp_ww {d : Nat} {K : List Value → zS → Prop} {mm : zM} {pt : Nat → Int} {tk : Nat → Nat} {q D S : Nat} (hC : zMg pt tk q mm) (hS : mm 128 24 = nI S) (hSb : S ≤ 100) (hD : D ≤ 2000) (hT : zTc D (D + S) q tk pt mm 0) {i a : Int32} {g last sum : Nat} (hg : g < q) (hl : last < 7) (hs : sum ≤ D + S) (hK : wx (d + 2) mX9_wets 130 [some (.ref 128), some (.int (nI D)), some (.int i), some (.int a), some (.int (nI last)), some (.int (nI sum)), some (.int (nI (zGt (zMw (D + S) q tk pt (zMq D (D + S) q tk pt (q - (g + 1))) g last sum) (zMq D (D + S) q tk pt (q - g) last sum) 30))), some (.int (nI g))] [] (zG mm) K) : ∀ c, c ≤ 30 → zGt (zMw (D + S) q tk pt (zMq D (D + S) q tk pt (q - (g + 1))) g last sum) (zMq D (D + S) q tk pt (q - g) last sum) 30 = zGt (zMw (D + S) q tk pt (zMq D (D + S) q tk pt (q - (g + 1))) g last sum) (zMq D (D + S) q tk pt (q - g) last sum) c → (∃ w, w ≤ c ∧ (zMw (D + S) q tk pt (zMq D (D + S) q tk pt (q - (g + 1))) g last sum) w = (zMq D (D + S) q tk pt (q - g) last sum)) → wx (d + 2) mX9_wets 89 [some (.ref 128), some (.int (nI D)), some (.int i), some (.int a), some (.int (nI last)), some (.int (nI sum)), some (.int (nI c)), some (.int (nI g))] [] (zG mm) K := by
  intro c
  induction c with
  | zero =>
    intro hc hz hw
    obtain ⟨w, w1, w2⟩ := hw
    obtain rfl : w = 0 := by omega
    have hq6 := hC.1
    have hVb := zMq_le D (D + S) q tk pt (q - g) last sum
    have hWb := zMw_le (D := D) (top := D + S) (q := q) (tk := tk) (pt := pt) (c := q - (g + 1)) (g := g) (last := last) (sum := sum) (w := 0)
    refine wx_aload_n (i := 0) dX9_wets_89 rfl rfl ?_
    refine wx_iload dX9_wets_90 rfl ?_
    refine wx_iload dX9_wets_92 rfl ?_
    refine wx_iload dX9_wets_94 rfl ?_
    refine wx_iload dX9_wets_96 rfl ?_
    refine wx_iload_n (i := 1) dX9_wets_98 rfl rfl ?_
    refine wx_aload_n (i := 0) dX9_wets_99 rfl rfl ?_
    refine wx_getIG (k := 128) dX9_wets_100 zF_X9_216 zKo_128 rfl (Nat.le_of_ble_eq_true rfl) ?_
    refine wx_iadd dX9_wets_103 ?_
    refine wx_V5 dX9_wets_104 zPV_X9_with zLk_X9_223 rfl (Nat.le_of_ble_eq_true rfl) (Nat.le_of_ble_eq_true rfl) (Or.inr rfl) ?_
    rw [hS, nI_add]
    refine s_X9_with hC hg hl (by omega) hs (by omega) (fun l s x y => ⟨hT (g + 1) l s (by omega) (by omega) x y, zMq_le _ _ _ _ _ _ _ _⟩) ?_
    refine wx_r1 ?_
    refine wx_aload_n (i := 0) dX9_wets_107 rfl rfl ?_
    refine wx_getRG (k := 128) (t := 153) dX9_wets_108 zF_X9_103 zKo_128 rfl (Nat.le_of_ble_eq_true rfl) zRf_128_36 ?_
    refine wx_iload dX9_wets_111 rfl ?_
    refine wx_iload dX9_wets_113 rfl ?_
    refine wx_iload dX9_wets_115 rfl ?_
    refine wx_S3 dX9_wets_117 zPS_X9_cell zLk_X9_219 (Nat.le_of_ble_eq_true rfl) (Or.inr rfl) ?_
    refine s_X9_cell ?_
    refine wx_r1 ?_
    refine wx_ialdG (k := 153) dX9_wets_120 zK_153 (Nat.le_of_ble_eq_true rfl) rfl ?_ ?_
    · exact ⟨zMc_lt (by omega) hl (by omega), by decide⟩
    rw [hT g last sum (by omega) (by omega) hl hs]
    refine wx_icmp_eq (tgt := 130) dX9_wets_121 (by decide) (fun h121 => ?_) (fun h121 => ?_)
    · rw [hz] at hK
      exact hK --end
    · rw [w2] at h121
      exact absurd rfl h121 --end
  | succ c ih =>
    intro hc hz hw
    have hq6 := hC.1
    have hVb := zMq_le D (D + S) q tk pt (q - g) last sum
    have hWb := zMw_le (D := D) (top := D + S) (q := q) (tk := tk) (pt := pt) (c := q - (g + 1)) (g := g) (last := last) (sum := sum) (w := (c + 1))
    refine wx_aload_n (i := 0) dX9_wets_89 rfl rfl ?_
    refine wx_iload dX9_wets_90 rfl ?_
    refine wx_iload dX9_wets_92 rfl ?_
    refine wx_iload dX9_wets_94 rfl ?_
    refine wx_iload dX9_wets_96 rfl ?_
    refine wx_iload_n (i := 1) dX9_wets_98 rfl rfl ?_
    refine wx_aload_n (i := 0) dX9_wets_99 rfl rfl ?_
    refine wx_getIG (k := 128) dX9_wets_100 zF_X9_216 zKo_128 rfl (Nat.le_of_ble_eq_true rfl) ?_
    refine wx_iadd dX9_wets_103 ?_
    refine wx_V5 dX9_wets_104 zPV_X9_with zLk_X9_223 rfl (Nat.le_of_ble_eq_true rfl) (Nat.le_of_ble_eq_true rfl) (Or.inr rfl) ?_
    rw [hS, nI_add]
    refine s_X9_with hC hg hl (by omega) hs (by omega) (fun l s x y => ⟨hT (g + 1) l s (by omega) (by omega) x y, zMq_le _ _ _ _ _ _ _ _⟩) ?_
    refine wx_r1 ?_
    refine wx_aload_n (i := 0) dX9_wets_107 rfl rfl ?_
    refine wx_getRG (k := 128) (t := 153) dX9_wets_108 zF_X9_103 zKo_128 rfl (Nat.le_of_ble_eq_true rfl) zRf_128_36 ?_
    refine wx_iload dX9_wets_111 rfl ?_
    refine wx_iload dX9_wets_113 rfl ?_
    refine wx_iload dX9_wets_115 rfl ?_
    refine wx_S3 dX9_wets_117 zPS_X9_cell zLk_X9_219 (Nat.le_of_ble_eq_true rfl) (Or.inr rfl) ?_
    refine s_X9_cell ?_
    refine wx_r1 ?_
    refine wx_ialdG (k := 153) dX9_wets_120 zK_153 (Nat.le_of_ble_eq_true rfl) rfl ?_ ?_
    · exact ⟨zMc_lt (by omega) hl (by omega), by decide⟩
    rw [hT g last sum (by omega) (by omega) hl hs]
    refine wx_icmp_eq (tgt := 130) dX9_wets_121 (by decide) (fun h121 => ?_) (fun h121 => ?_)
    · rw [nI_eq (by omega) (by omega)] at h121
      rw [hz, show zGt (zMw (D + S) q tk pt (zMq D (D + S) q tk pt (q - (g + 1))) g last sum) (zMq D (D + S) q tk pt (q - g) last sum) (c + 1) = c + 1 from if_pos h121] at hK
      exact hK --end
    · rw [nI_eq (by omega) (by omega)] at h121
      refine wx_inc (c := (-1)) dX9_wets_124 rfl (by decide) (Nat.le_of_ble_eq_true rfl) rfl ?_
      refine wx_goto (tgt := 89) dX9_wets_127 (by decide) ?_
      rw [show nI (c + 1) + (-1) = nI c from by rw [zm_1, zi_nI, zi_add, zi_nI]; exact congrArg zi (by omega)]
      obtain ⟨w, w1, w2⟩ := hw
      have hne : w ≠ c + 1 := fun e => h121 (e ▸ w2)
      exact ih (by omega) (hz.trans (if_neg h121)) ⟨w, by omega, w2⟩
theorem lp_wi {d : Nat} {K : List Value → zS → Prop} {mm : zM} {pt : Nat → Int} {tk : Nat → Nat} {q D S : Nat} (hC : zMg pt tk q mm) (hS : mm 128 24 = nI S) (hSb : S ≤ 100) (hD : D ≤ 2000) (hT : zTc D (D + S) q tk pt mm 0) {a : Int32} {j : Nat} (hj : j ≤ q) (h0 : (zTr D S q tk pt 0).2.2 < 1000000) (hK : K [.int (nI (zTr D S q tk pt j).2.2)] (zG mm))  : ∀ (c i : Nat) , i + c = j →  wx (d + 2) mX9_wets 79 [some (.ref 128), some (.int (nI D)), some (.int (zi ((j : Int) - 1))), some (.int a), some (.int (nI (zTr D S q tk pt i).1)), some (.int (nI (zTr D S q tk pt i).2.1)), some (.int (nI (zTr D S q tk pt i).2.2)), some (.int (nI i))] [] (zG mm) K := by
  intro c
  induction c with
  | zero =>
    intro i  hi 
    obtain rfl : i = j := by omega
    have hq6 := hC.1
    refine wx_iload dX9_wets_79 rfl ?_
    refine wx_iload_n (i := 2) dX9_wets_81 rfl rfl ?_
    refine wx_icmp_gt (tgt := 165) dX9_wets_82 (by decide) (fun h82 => ?_) (fun h82 => ?_)
    · skip
      refine wx_iload dX9_wets_165 rfl ?_
      refine wx_iret dX9_wets_167 rfl rfl (Or.inl rfl) ?_
      exact hK
    · exact absurd (show zi ((i : Int) - 1) < nI i by rw [zi_nI, zi_lt (by omega) (by omega)]; omega) h82 --end
  | succ c ih =>
    intro i  hi 
    have hq6 := hC.1
    refine wx_iload dX9_wets_79 rfl ?_
    refine wx_iload_n (i := 2) dX9_wets_81 rfl rfl ?_
    refine wx_icmp_gt (tgt := 165) dX9_wets_82 (by decide) (fun h82 => ?_) (fun h82 => ?_)
    · exact absurd h82 (by rw [zi_nI, zi_lt (by omega) (by omega)]; omega) --end
    · skip
      refine wx_bipush (v := 30) dX9_wets_85 (by decide) ?_
      refine wx_istore dX9_wets_87 (Nat.le_of_ble_eq_true rfl) rfl ?_
      have hex := zTr_ex h0 hC.1 (show i < q by omega)
      have hw30 := (zGt_ok hex).2
      obtain ⟨t1, t2, t3⟩ := zTr_ok h0 hC.1 i (by omega)
      rw [show (30 : Int32) = nI 30 from rfl]
      refine lp_ww hC hS hSb hD hT (show i < q by omega) t1 t2 ?_ 30 (by omega) rfl hex
      refine wx_iload dX9_wets_130 rfl ?_
      refine wx_iload dX9_wets_132 rfl ?_
      refine wx_aload_n (i := 0) dX9_wets_134 rfl rfl ?_
      refine wx_getRG (k := 128) (t := 142) dX9_wets_135 zF_X9_68 zKo_128 rfl (Nat.le_of_ble_eq_true rfl) zRf_128_22 ?_
      refine wx_iload dX9_wets_138 rfl ?_
      refine wx_ialdG (k := 142) dX9_wets_140 zK_142 (Nat.le_of_ble_eq_true rfl) rfl ?_ ?_
      · exact ⟨by omega, by decide⟩
      refine wx_imul dX9_wets_141 ?_
      refine wx_iadd dX9_wets_142 ?_
      rw [(hC.2.2.2 i (by omega)).1, nI_mul, nI_add]
      refine wx_istore dX9_wets_143 (Nat.le_of_ble_eq_true rfl) rfl ?_
      refine wx_iload dX9_wets_145 rfl ?_
      refine wx_if_le (tgt := 155) dX9_wets_147 (by decide) (fun h147 => ?_) (fun h147 => ?_)
      · rw [show (0 : Int32) = nI 0 from rfl, nI_leI (by omega) (by omega)] at h147
        have e1 : (zTr D S q tk pt (i + 1)).1 = (zTr D S q tk pt i).1 := if_neg (by omega)
        refine wx_iload dX9_wets_155 rfl ?_
        refine wx_istore dX9_wets_157 (Nat.le_of_ble_eq_true rfl) rfl ?_
        refine wx_inc (c := 1) dX9_wets_159 rfl (by decide) (Nat.le_of_ble_eq_true rfl) rfl ?_
        refine wx_goto (tgt := 79) dX9_wets_162 (by decide) ?_
        rw [nI_1]
        have e := ih (i + 1) (by omega)
        rw [e1] at e
        exact e
      · rw [show (0 : Int32) = nI 0 from rfl, nI_leI (by omega) (by omega)] at h147
        have e1 : (zTr D S q tk pt (i + 1)).1 = i := if_pos (by omega)
        refine wx_iload dX9_wets_150 rfl ?_
        refine wx_goto (tgt := 157) dX9_wets_152 (by decide) ?_
        refine wx_istore dX9_wets_157 (Nat.le_of_ble_eq_true rfl) rfl ?_
        refine wx_inc (c := 1) dX9_wets_159 rfl (by decide) (Nat.le_of_ble_eq_true rfl) rfl ?_
        refine wx_goto (tgt := 79) dX9_wets_162 (by decide) ?_
        rw [nI_1]
        have e := ih (i + 1) (by omega)
        rw [e1] at e
        exact e
theorem s_X9_wets_bad {d : Nat} {K : List Value → zS → Prop} {mm : zM} {a b : Int32} (hb : ¬ ((1 ≤ a ∧ a ≤ 2000) ∧ (-1 ≤ b ∧ b ≤ mm 128 21 - 1))) (hK : K [.int (-1)] (zG mm)) : wm (d + 3) mX9_wets [.ref 128, .int a, .int b] (zG mm) K := by
  refine wm_of2 (L0 := [some (.ref 128), some (.int a), some (.int b), none, none, none, none, none]) zCm_X9_wets (Or.inl rfl) (Nat.le_of_ble_eq_true rfl) rfl ?_
  refine wx_iload_n (i := 1) dX9_wets_0 rfl rfl ?_
  refine wx_iconst (v := 1) dX9_wets_1 (by decide) ?_
  refine wx_sipush (v := 2000) dX9_wets_2 (by decide) ?_
  refine wx_S3 dX9_wets_5 zPS_X9_in zLk_X9_116 (Nat.le_of_ble_eq_true rfl) (Or.inr rfl) ?_
  refine s_X9_in _ _ _ ?_
  refine wx_r1 ?_
  refine wx_eqb (tgt := 25) dX9_wets_8 (by decide) (fun h8 => ?_) (fun h8 => ?_)
  · skip
    refine wx_iconst (v := (-1)) dX9_wets_25 (by decide) ?_
    refine wx_iret dX9_wets_26 rfl rfl (Or.inl rfl) ?_
    exact hK
  · skip
    refine wx_iload_n (i := 2) dX9_wets_11 rfl rfl ?_
    refine wx_iconst (v := (-1)) dX9_wets_12 (by decide) ?_
    refine wx_aload_n (i := 0) dX9_wets_13 rfl rfl ?_
    refine wx_getIG (k := 128) dX9_wets_14 zF_X9_213 zKo_128 rfl (Nat.le_of_ble_eq_true rfl) ?_
    refine wx_iconst (v := 1) dX9_wets_17 (by decide) ?_
    refine wx_isub dX9_wets_18 ?_
    refine wx_S3 dX9_wets_19 zPS_X9_in zLk_X9_116 (Nat.le_of_ble_eq_true rfl) (Or.inr rfl) ?_
    refine s_X9_in _ _ _ ?_
    refine wx_r1 ?_
    refine wx_neb (tgt := 27) dX9_wets_22 (by decide) (fun h22 => ?_) (fun h22 => ?_)
    · skip
      exact (hb ⟨by assumption, by assumption⟩).elim
    · skip
      refine wx_iconst (v := (-1)) dX9_wets_25 (by decide) ?_
      refine wx_iret dX9_wets_26 rfl rfl (Or.inl rfl) ?_
      exact hK
theorem s_X9_wets_ok {d : Nat} {K : List Value → zS → Prop} {mm : zM} {pt : Nat → Int} {tk : Nat → Nat} {q D S : Nat} (hC : zMg pt tk q mm) (hS : mm 128 24 = nI S) (hSb : S ≤ 100) (hD : 1 ≤ D ∧ D ≤ 2000) {j : Nat} (hj : j ≤ q) (k1 : 1 ≤ nI D ∧ nI D ≤ 2000) (k2 : -1 ≤ zi ((j : Int) - 1) ∧ zi ((j : Int) - 1) ≤ mm 128 21 - 1) (hK : ∀ m2 : zM, (∀ c, c ≠ 153 → m2 c = mm c) → K [.int (zAw D S q tk pt j)] (zG m2))  : wm (d + 3) mX9_wets [.ref 128, .int (nI D), .int (zi ((j : Int) - 1))] (zG mm) K := by
  refine wm_of2 (L0 := [some (.ref 128), some (.int (nI D)), some (.int (zi ((j : Int) - 1))), none, none, none, none, none]) zCm_X9_wets (Or.inl rfl) (Nat.le_of_ble_eq_true rfl) rfl ?_
  refine wx_iload_n (i := 1) dX9_wets_0 rfl rfl ?_
  refine wx_iconst (v := 1) dX9_wets_1 (by decide) ?_
  refine wx_sipush (v := 2000) dX9_wets_2 (by decide) ?_
  refine wx_S3 dX9_wets_5 zPS_X9_in zLk_X9_116 (Nat.le_of_ble_eq_true rfl) (Or.inr rfl) ?_
  refine s_X9_in _ _ _ ?_
  refine wx_r1 ?_
  refine wx_eqb (tgt := 25) dX9_wets_8 (by decide) (fun h8 => ?_) (fun h8 => ?_)
  · contradiction --end
  · skip
    refine wx_iload_n (i := 2) dX9_wets_11 rfl rfl ?_
    refine wx_iconst (v := (-1)) dX9_wets_12 (by decide) ?_
    refine wx_aload_n (i := 0) dX9_wets_13 rfl rfl ?_
    refine wx_getIG (k := 128) dX9_wets_14 zF_X9_213 zKo_128 rfl (Nat.le_of_ble_eq_true rfl) ?_
    refine wx_iconst (v := 1) dX9_wets_17 (by decide) ?_
    refine wx_isub dX9_wets_18 ?_
    refine wx_S3 dX9_wets_19 zPS_X9_in zLk_X9_116 (Nat.le_of_ble_eq_true rfl) (Or.inr rfl) ?_
    refine s_X9_in _ _ _ ?_
    refine wx_r1 ?_
    refine wx_neb (tgt := 27) dX9_wets_22 (by decide) (fun h22 => ?_) (fun h22 => ?_)
    · skip
      refine wx_aload_n (i := 0) dX9_wets_27 rfl rfl ?_
      refine wx_iload_n (i := 1) dX9_wets_28 rfl rfl ?_
      refine wx_V1 dX9_wets_29 zPV_X9_wetsBy zLk_X9_227 rfl (Nat.le_of_ble_eq_true rfl) (Nat.le_of_ble_eq_true rfl) (Or.inr rfl) ?_
      refine s_X9_wetsBy hC hS hSb hD.2 (fun m2 hf hT => ?_)
      have hq6 := hC.1
      have hC2 := zMg_fr hC hf
      have hS2 : m2 128 24 = nI S := by rw [hf 128 (by decide)]; exact hS
      refine wx_r0 ?_
      refine wx_aload_n (i := 0) dX9_wets_32 rfl rfl ?_
      refine wx_getIG (k := 128) dX9_wets_33 zF_X9_213 zKo_128 rfl (Nat.le_of_ble_eq_true rfl) ?_
      refine wx_if_ne (tgt := 44) dX9_wets_36 (by decide) (fun h36 => ?_) (fun h36 => ?_)
      · rw [hC2.2.1, show (0 : Int32) = nI 0 from rfl, nI_eq (by omega) (by omega)] at h36
        refine wx_aload_n (i := 0) dX9_wets_44 rfl rfl ?_
        refine wx_getRG (k := 128) (t := 153) dX9_wets_45 zF_X9_103 zKo_128 rfl (Nat.le_of_ble_eq_true rfl) zRf_128_36 ?_
        refine wx_iconst (v := 0) dX9_wets_48 (by decide) ?_
        refine wx_bipush (v := 6) dX9_wets_49 (by decide) ?_
        refine wx_iconst (v := 0) dX9_wets_51 (by decide) ?_
        refine wx_S3 dX9_wets_52 zPS_X9_cell zLk_X9_219 (Nat.le_of_ble_eq_true rfl) (Or.inr rfl) ?_
        rw [show (0 : Int32) = nI 0 from rfl, show (6 : Int32) = nI 6 from rfl]
        refine s_X9_cell ?_
        refine wx_r1 ?_
        refine wx_ialdG (k := 153) dX9_wets_55 zK_153 (Nat.le_of_ble_eq_true rfl) rfl ?_ ?_
        · exact ⟨zMc_lt (by omega) (by omega) (by omega), by decide⟩
        first | rw [hT 0 6 0 (by omega) (by omega) (by omega) (by omega), show zMq D (D + S) q tk pt (q - 0) 6 0 = (zTr D S q tk pt 0).2.2 from (if_neg h36).symm] | rw [show (1000000 : Int32) = nI (zTr D S q tk pt 0).2.2 from congrArg nI (if_pos h36).symm]
        have hA : (zTr D S q tk pt 0).2.2 ≤ 1000000 := by
          show (if q = 0 then 1000000 else zMq D (D + S) q tk pt q 6 0) ≤ 1000000
          have := zMq_le D (D + S) q tk pt q 6 0
          by_cases e : q = 0
          · rw [if_pos e]; omega
          · rw [if_neg e]; exact this
        refine wx_istore_n (i := 3) dX9_wets_56 rfl (Nat.le_of_ble_eq_true rfl) rfl ?_
        refine wx_iload_n (i := 3) dX9_wets_57 rfl rfl ?_
        refine wx_ldc dX9_wets_58 zKc_X9_162 ?_
        refine wx_icmp_lt (tgt := 66) dX9_wets_60 (by decide) (fun h60 => ?_) (fun h60 => ?_)
        · have h60 := (nI_ltI (a := (zTr D S q tk pt 0).2.2) (b := 1000000) (by omega) (by omega)).mp h60
          refine wx_bipush (v := 6) dX9_wets_66 (by decide) ?_
          refine wx_istore dX9_wets_68 (Nat.le_of_ble_eq_true rfl) rfl ?_
          refine wx_iconst (v := 0) dX9_wets_70 (by decide) ?_
          refine wx_istore dX9_wets_71 (Nat.le_of_ble_eq_true rfl) rfl ?_
          refine wx_iload_n (i := 3) dX9_wets_73 rfl rfl ?_
          refine wx_istore dX9_wets_74 (Nat.le_of_ble_eq_true rfl) rfl ?_
          refine wx_iconst (v := 0) dX9_wets_76 (by decide) ?_
          refine wx_istore dX9_wets_77 (Nat.le_of_ble_eq_true rfl) rfl ?_
          exact lp_wi hC2 hS2 hSb hD.2 hT hj h60 (zki (hK m2 hf) (if_pos h60)) j 0 (by omega)
        · have h60 : ¬ (zTr D S q tk pt 0).2.2 < 1000000 := fun w => h60 (nI_lt w (by decide))
          refine wx_bipush (v := (-4)) dX9_wets_63 (by decide) ?_
          refine wx_iret dX9_wets_65 rfl rfl (Or.inl rfl) ?_
          exact zki (hK m2 hf) (if_neg h60)
      · rw [hC2.2.1, show (0 : Int32) = nI 0 from rfl, nI_eq (by omega) (by omega)] at h36
        refine wx_ldc dX9_wets_39 zKc_X9_162 ?_
        refine wx_goto (tgt := 56) dX9_wets_41 (by decide) ?_
        first | rw [hT 0 6 0 (by omega) (by omega) (by omega) (by omega), show zMq D (D + S) q tk pt (q - 0) 6 0 = (zTr D S q tk pt 0).2.2 from (if_neg h36).symm] | rw [show (1000000 : Int32) = nI (zTr D S q tk pt 0).2.2 from congrArg nI (if_pos h36).symm]
        have hA : (zTr D S q tk pt 0).2.2 ≤ 1000000 := by
          show (if q = 0 then 1000000 else zMq D (D + S) q tk pt q 6 0) ≤ 1000000
          have := zMq_le D (D + S) q tk pt q 6 0
          by_cases e : q = 0
          · rw [if_pos e]; omega
          · rw [if_neg e]; exact this
        refine wx_istore_n (i := 3) dX9_wets_56 rfl (Nat.le_of_ble_eq_true rfl) rfl ?_
        refine wx_iload_n (i := 3) dX9_wets_57 rfl rfl ?_
        refine wx_ldc dX9_wets_58 zKc_X9_162 ?_
        refine wx_icmp_lt (tgt := 66) dX9_wets_60 (by decide) (fun h60 => ?_) (fun h60 => ?_)
        · have h60 := (nI_ltI (a := (zTr D S q tk pt 0).2.2) (b := 1000000) (by omega) (by omega)).mp h60
          refine wx_bipush (v := 6) dX9_wets_66 (by decide) ?_
          refine wx_istore dX9_wets_68 (Nat.le_of_ble_eq_true rfl) rfl ?_
          refine wx_iconst (v := 0) dX9_wets_70 (by decide) ?_
          refine wx_istore dX9_wets_71 (Nat.le_of_ble_eq_true rfl) rfl ?_
          refine wx_iload_n (i := 3) dX9_wets_73 rfl rfl ?_
          refine wx_istore dX9_wets_74 (Nat.le_of_ble_eq_true rfl) rfl ?_
          refine wx_iconst (v := 0) dX9_wets_76 (by decide) ?_
          refine wx_istore dX9_wets_77 (Nat.le_of_ble_eq_true rfl) rfl ?_
          exact lp_wi hC2 hS2 hSb hD.2 hT hj h60 (zki (hK m2 hf) (if_pos h60)) j 0 (by omega)
        · have h60 : ¬ (zTr D S q tk pt 0).2.2 < 1000000 := fun w => h60 (nI_lt w (by decide))
          refine wx_bipush (v := (-4)) dX9_wets_63 (by decide) ?_
          refine wx_iret dX9_wets_65 rfl rfl (Or.inl rfl) ?_
          exact zki (hK m2 hf) (if_neg h60)
    · contradiction --end
