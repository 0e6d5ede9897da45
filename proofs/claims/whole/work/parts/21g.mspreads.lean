/-! the rings of the reference: one spread -/
def zCn (t : List Nat) : Nat → Nat
  | 0 => 0
  | r + 1 => zCn t r + (if t.getD r 0 = 0 then 0 else 1)
theorem zCn_le (t : List Nat) : ∀ r, zCn t r ≤ r
  | 0 => Nat.le_refl _
  | r + 1 => by
    have := zCn_le t r
    show zCn t r + _ ≤ _
    by_cases q : t.getD r 0 = 0
    · rw [if_pos q]; omega
    · rw [if_neg q]; omega
theorem zCn_y {t : List Nat} {r : Nat} (h : ¬ t.getD r 0 = 0) : zCn t (r + 1) = zCn t r + 1 := by
  show _ + _ = _
  rw [if_neg h]
theorem zCn_n {t : List Nat} {r : Nat} (h : t.getD r 0 = 0) : zCn t (r + 1) = zCn t r := by
  show _ + _ = _
  rw [if_pos h]
  rfl
theorem zUs_cons (x : Nat) (l : List Nat) : zUs (x :: l) = (if x = 0 then 0 else 1) + zUs l := by
  unfold zUs
  by_cases h : x = 0
  · subst h; rw [if_pos rfl]; simp
  · rw [if_neg h, List.filter_cons_of_pos (by simpa using h), List.length_cons]; omega
theorem zUs_6 (a b c d e f : Nat) : zUs [a, b, c, d, e, f] = zCn [a, b, c, d, e, f] 6 := by
  rw [zUs_cons, zUs_cons, zUs_cons, zUs_cons, zUs_cons, zUs_cons]
  show _ = 0 + (if a = 0 then 0 else 1) + (if b = 0 then 0 else 1) + (if c = 0 then 0 else 1) + (if d = 0 then 0 else 1) + (if e = 0 then 0 else 1) + (if f = 0 then 0 else 1)
  show (if a = 0 then 0 else 1) + ((if b = 0 then 0 else 1) + ((if c = 0 then 0 else 1) + ((if d = 0 then 0 else 1) + ((if e = 0 then 0 else 1) + ((if f = 0 then 0 else 1) + 0))))) = _
  omega
theorem zSpr_o {w : Nat → Int} {n : Nat} (hn : 0 < n) {o p : Int} (h : ∀ z, p ≤ w z ∧ w z ≤ o) : zMx w p n - zMn w o n = zSpr w n := by
  obtain ⟨⟨a1, a2⟩, a3⟩ := zMx_spec w p n
  obtain ⟨⟨b1, b2⟩, b3⟩ := zMn_spec w o n
  obtain ⟨⟨c1, c2⟩, c3⟩ := zMx_spec w (w 0) n
  obtain ⟨⟨d1, d2⟩, d3⟩ := zMn_spec w (w 0) n
  have a0 := a2 0 hn
  have b0 := b2 0 hn
  have h0 := h 0
  have ex : zMx w p n = zMx w (w 0) n := by
    have l1 : zMx w p n ≤ zMx w (w 0) n := by
      rcases a3 with q | ⟨j, hj, q⟩
      · omega
      · rw [q]; exact c2 j hj
    have l2 : zMx w (w 0) n ≤ zMx w p n := by
      rcases c3 with q | ⟨j, hj, q⟩
      · omega
      · rw [q]; exact a2 j hj
    omega
  have ey : zMn w o n = zMn w (w 0) n := by
    have l1 : zMn w (w 0) n ≤ zMn w o n := by
      rcases b3 with q | ⟨j, hj, q⟩
      · omega
      · rw [q]; exact d2 j hj
    have l2 : zMn w o n ≤ zMn w (w 0) n := by
      rcases d3 with q | ⟨j, hj, q⟩
      · omega
      · rw [q]; exact b2 j hj
    omega
  unfold zSpr
  rw [ex, ey]
/-- what is told of the rings of the reference -/
def zMb (bd : Nat → Nat → Int) (n : Nat) (mm : zM) : Prop := (∀ r z, r < 7 → z < 16 → mm 140 (16 * r + z) = zi (bd r z)) ∧ mm 128 0 = nI n
def zMs2 (st : Int × List Nat) (mm : zM) : Prop := (mm 128 33 = zi st.1 ∧ -1000000 ≤ st.1 ∧ st.1 ≤ 1000000) ∧ ∀ r, r < 6 → mm 150 r = nI (st.2.getD r 0)
def zFb (mm m2 : zM) : Prop := ∀ c j, c ≠ 150 → ¬ (c = 128 ∧ j = 33) → m2 c j = mm c j
theorem zMb_fb {bd : Nat → Nat → Int} {n : Nat} {mm m2 : zM} (h : zMb bd n mm) (f : zFb mm m2) : zMb bd n m2 := ⟨fun r z u v => by rw [f 140 _ (by decide) (by omega)]; exact h.1 r z u v, by rw [f 128 0 (by decide) (by decide)]; exact h.2⟩
theorem lp_mb4 {d : Nat} {K : List Value → zS → Prop} {mm : zM} {bd : Nat → Nat → Int} {n : Nat} {st : Int × List Nat} {t : List Nat} (hO : zRo bd n) (hC : zMb bd n mm) (hsh : ∀ r, r < 6 → mm 149 r = nI (t.getD r 0)) (h12 : zSu t 6 = 12) (ht : ∀ r, t.getD r 0 ≤ 12) (hst : zMs2 st mm) (h3 : zCn t 6 ≤ 3) (hlt : zSpt bd n t < st.1) (hK : ∀ m2 : zM, zFb mm m2 → zMs2 (if zCn t 6 ≤ 3 then zStp (zSpt bd n) st t else st) m2 → K [] (zG m2))  : ∀ (c i : Nat) (m1 : zM) (x1 x2 x3 : Int32) (y5 y6 : Option Value), i + c = 6 → (zFb mm m1) → (m1 128 33 = zi (zSpt bd n t)) → (∀ r, r < i → m1 150 r = nI (t.getD r 0)) → wx (d) mX9_spreads 166 [some (.ref 128), some (.int x1), some (.int x2), some (.int x3), some (.int (nI i)), y5, y6] [] (zG m1) K := by
  intro c
  induction c with
  | zero =>
    intro i m1 x1 x2 x3 y5 y6 hi hf h5 hbst
    obtain rfl : i = 6 := by omega
    refine wx_iload dX9_spreads_166 rfl ?_
    refine wx_bipush (v := 6) dX9_spreads_168 (by decide) ?_
    refine wx_icmp_ge (tgt := 193) dX9_spreads_170 (by decide) (fun h170 => ?_) (fun h170 => ?_)
    · skip
      refine wx_vret dX9_spreads_193 rfl (Or.inl rfl) ?_
      refine hK m1 hf ?_
      have hs := zSpt_b (n := n) hO h12
      unfold zStp
      rw [if_pos h3, if_pos hlt]
      exact ⟨⟨h5, by show -1000000 ≤ zSpt bd n t; omega, by show zSpt bd n t ≤ 1000000; omega⟩, hbst⟩
    · exact absurd (show nI 6 ≤ nI 6 from nI_le (by omega) (by omega)) h170 --end
  | succ c ih =>
    intro i m1 x1 x2 x3 y5 y6 hi hf h5 hbst
    refine wx_iload dX9_spreads_166 rfl ?_
    refine wx_bipush (v := 6) dX9_spreads_168 (by decide) ?_
    refine wx_icmp_ge (tgt := 193) dX9_spreads_170 (by decide) (fun h170 => ?_) (fun h170 => ?_)
    · exact absurd (show nI 6 ≤ nI i from h170) (nI_ge (by omega) (by omega)) --end
    · skip
      refine wx_aload_n (i := 0) dX9_spreads_173 rfl rfl ?_
      refine wx_getRG (k := 128) (t := 150) dX9_spreads_174 zF_X9_93 zKo_128 rfl (Nat.le_of_ble_eq_true rfl) zRf_128_32 ?_
      refine wx_iload dX9_spreads_177 rfl ?_
      refine wx_aload_n (i := 0) dX9_spreads_179 rfl rfl ?_
      refine wx_getRG (k := 128) (t := 149) dX9_spreads_180 zF_X9_90 zKo_128 rfl (Nat.le_of_ble_eq_true rfl) zRf_128_31 ?_
      refine wx_iload dX9_spreads_183 rfl ?_
      refine wx_ialdG (k := 149) dX9_spreads_185 zK_149 (Nat.le_of_ble_eq_true rfl) rfl ?_ ?_
      · exact ⟨by omega, by decide⟩
      refine wx_iastG (k := 150) dX9_spreads_186 zK_150 (Nat.le_of_ble_eq_true rfl) rfl ?_ ?_
      · exact ⟨by omega, by decide⟩
      refine wx_inc (c := 1) dX9_spreads_187 rfl (by decide) (Nat.le_of_ble_eq_true rfl) rfl ?_
      refine wx_goto (tgt := 166) dX9_spreads_190 (by decide) ?_
      rw [nI_1]
      exact ih (i + 1) _ x1 x2 x3 _ _ (by omega) (fun c j u v => (congrFun (zU_ne u) j).trans (hf c j u v)) (by rw [zU_ne (by decide)]; exact h5) (zU_lt (f := fun r => nI (t.getD r 0)) hbst (by rw [hf 149 i (by decide) (by omega)]; exact hsh i (by omega)))
theorem lp_mb3 {d : Nat} {K : List Value → zS → Prop} {mm : zM} {bd : Nat → Nat → Int} {n : Nat} {st : Int × List Nat} {t : List Nat} (hO : zRo bd n) (hC : zMb bd n mm) (hsh : ∀ r, r < 6 → mm 149 r = nI (t.getD r 0)) (h12 : zSu t 6 = 12) (ht : ∀ r, t.getD r 0 ≤ 12) (hst : zMs2 st mm) {w : Nat} (hw : w < 16) {x1 x2 x3 : Int32} (hK : ∀ y6 : Option Value, wx d mX9_spreads 114 [some (.ref 128), some (.int x1), some (.int x2), some (.int x3), some (.int (nI w)), some (.int (zi (zRw bd t 6 w))), y6] [] (zG mm) K) : ∀ (c i : Nat) , i + c = 6 →  wx (d) mX9_spreads 75 [some (.ref 128), some (.int x1), some (.int x2), some (.int x3), some (.int (nI w)), some (.int (zi (zRw bd t i w))), some (.int (nI i))] [] (zG mm) K := by
  intro c
  induction c with
  | zero =>
    intro i  hi 
    obtain rfl : i = 6 := by omega
    refine wx_iload dX9_spreads_75 rfl ?_
    refine wx_bipush (v := 6) dX9_spreads_77 (by decide) ?_
    refine wx_icmp_ge (tgt := 114) dX9_spreads_79 (by decide) (fun h79 => ?_) (fun h79 => ?_)
    · skip
      exact hK _
    · exact absurd (show nI 6 ≤ nI 6 from nI_le (by omega) (by omega)) h79 --end
  | succ c ih =>
    intro i  hi 
    refine wx_iload dX9_spreads_75 rfl ?_
    refine wx_bipush (v := 6) dX9_spreads_77 (by decide) ?_
    refine wx_icmp_ge (tgt := 114) dX9_spreads_79 (by decide) (fun h79 => ?_) (fun h79 => ?_)
    · exact absurd (show nI 6 ≤ nI i from h79) (nI_ge (by omega) (by omega)) --end
    · skip
      refine wx_iload dX9_spreads_82 rfl ?_
      refine wx_aload_n (i := 0) dX9_spreads_84 rfl rfl ?_
      refine wx_getRG (k := 128) (t := 149) dX9_spreads_85 zF_X9_90 zKo_128 rfl (Nat.le_of_ble_eq_true rfl) zRf_128_31 ?_
      refine wx_iload dX9_spreads_88 rfl ?_
      refine wx_ialdG (k := 149) dX9_spreads_90 zK_149 (Nat.le_of_ble_eq_true rfl) rfl ?_ ?_
      · exact ⟨by omega, by decide⟩
      refine wx_aload_n (i := 0) dX9_spreads_91 rfl rfl ?_
      refine wx_getRG (k := 128) (t := 140) dX9_spreads_92 zF_X9_62 zKo_128 rfl (Nat.le_of_ble_eq_true rfl) zRf_128_19 ?_
      refine wx_bipush (v := 16) dX9_spreads_95 (by decide) ?_
      refine wx_iload dX9_spreads_97 rfl ?_
      refine wx_imul dX9_spreads_99 ?_
      refine wx_iload dX9_spreads_100 rfl ?_
      refine wx_iadd dX9_spreads_102 ?_
      refine wx_ialdG (k := 140) (j := 16 * i + w) dX9_spreads_103 zK_140 (Nat.le_of_ble_eq_true rfl) ?_ ?_ ?_
      · (simp only [zl_16, zi_nI, zi_mul, zi_add] <;> first | done | exact congrArg zi (by omega))
      · exact ⟨by omega, by decide⟩
      refine wx_imul dX9_spreads_104 ?_
      refine wx_isub dX9_spreads_105 ?_
      refine wx_istore dX9_spreads_106 (Nat.le_of_ble_eq_true rfl) rfl ?_
      refine wx_inc (c := 1) dX9_spreads_108 rfl (by decide) (Nat.le_of_ble_eq_true rfl) rfl ?_
      refine wx_goto (tgt := 75) dX9_spreads_111 (by decide) ?_
      rw [nI_1, hsh i (by omega), hC.1 i w (by omega) hw, zi_nI (t.getD i 0), zi_mul, zi_sub]
      exact ih (i + 1) (by omega)
theorem lp_mb114 {d : Nat} {K : List Value → zS → Prop} {mm : zM} {bd : Nat → Nat → Int} {t : List Nat} {x1 : Int32} {i : Nat} {y6 : Option Value} (hb : -100000 ≤ zRw bd t 6 i ∧ zRw bd t 6 i ≤ 100000) (hbx : -1000000 ≤ zMx (zRw bd t 6) (-1000000) i ∧ zMx (zRw bd t 6) (-1000000) i ≤ 1000000) (hbn : -1000000 ≤ zMn (zRw bd t 6) 1000000 i ∧ zMn (zRw bd t 6) 1000000 i ≤ 1000000) (hK : ∀ y5 y6 : Option Value, wx d mX9_spreads 48 [some (.ref 128), some (.int x1), some (.int (zi (zMn (zRw bd t 6) 1000000 (i + 1)))), some (.int (zi (zMx (zRw bd t 6) (-1000000) (i + 1)))), some (.int (nI (i + 1))), y5, y6] [] (zG mm) K) : wx d mX9_spreads 114 [some (.ref 128), some (.int x1), some (.int (zi (zMn (zRw bd t 6) 1000000 i))), some (.int (zi (zMx (zRw bd t 6) (-1000000) i))), some (.int (nI i)), some (.int (zi (zRw bd t 6 i))), y6] [] (zG mm) K := by
  refine wx_iload dX9_spreads_114 rfl ?_
  refine wx_iload_n (i := 2) dX9_spreads_116 rfl rfl ?_
  refine wx_icmp_ge (tgt := 125) dX9_spreads_117 (by decide) (fun h117 => ?_) (fun h117 => ?_)
  · rw [zi_le (by omega) (by omega)] at h117
    have e1 : zi (zMn (zRw bd t 6) 1000000 (i + 1)) = zi (zMn (zRw bd t 6) 1000000 i) := congrArg zi (if_pos (by omega))
    refine wx_iload_n (i := 2) dX9_spreads_125 rfl rfl ?_
    refine wx_istore_n (i := 2) dX9_spreads_126 rfl (Nat.le_of_ble_eq_true rfl) rfl ?_
    refine wx_iload dX9_spreads_127 rfl ?_
    refine wx_iload_n (i := 3) dX9_spreads_129 rfl rfl ?_
    refine wx_icmp_le (tgt := 138) dX9_spreads_130 (by decide) (fun h130 => ?_) (fun h130 => ?_)
    · rw [zi_le (by omega) (by omega)] at h130
      have e2 : zi (zMx (zRw bd t 6) (-1000000) (i + 1)) = zi (zMx (zRw bd t 6) (-1000000) i) := congrArg zi (if_pos (by omega))
      refine wx_iload_n (i := 3) dX9_spreads_138 rfl rfl ?_
      refine wx_istore_n (i := 3) dX9_spreads_139 rfl (Nat.le_of_ble_eq_true rfl) rfl ?_
      refine wx_inc (c := 1) dX9_spreads_140 rfl (by decide) (Nat.le_of_ble_eq_true rfl) rfl ?_
      refine wx_goto (tgt := 48) dX9_spreads_143 (by decide) ?_
      rw [nI_1]
      have e := hK (some (.int (zi (zRw bd t 6 i)))) y6
      rw [e1, e2] at e
      exact e
    · rw [zi_le (by omega) (by omega)] at h130
      have e2 : zi (zMx (zRw bd t 6) (-1000000) (i + 1)) = zi (zRw bd t 6 i) := congrArg zi (if_neg (by omega))
      refine wx_iload dX9_spreads_133 rfl ?_
      refine wx_goto (tgt := 139) dX9_spreads_135 (by decide) ?_
      refine wx_istore_n (i := 3) dX9_spreads_139 rfl (Nat.le_of_ble_eq_true rfl) rfl ?_
      refine wx_inc (c := 1) dX9_spreads_140 rfl (by decide) (Nat.le_of_ble_eq_true rfl) rfl ?_
      refine wx_goto (tgt := 48) dX9_spreads_143 (by decide) ?_
      rw [nI_1]
      have e := hK (some (.int (zi (zRw bd t 6 i)))) y6
      rw [e1, e2] at e
      exact e
  · rw [zi_le (by omega) (by omega)] at h117
    have e1 : zi (zMn (zRw bd t 6) 1000000 (i + 1)) = zi (zRw bd t 6 i) := congrArg zi (if_neg (by omega))
    refine wx_iload dX9_spreads_120 rfl ?_
    refine wx_goto (tgt := 126) dX9_spreads_122 (by decide) ?_
    refine wx_istore_n (i := 2) dX9_spreads_126 rfl (Nat.le_of_ble_eq_true rfl) rfl ?_
    refine wx_iload dX9_spreads_127 rfl ?_
    refine wx_iload_n (i := 3) dX9_spreads_129 rfl rfl ?_
    refine wx_icmp_le (tgt := 138) dX9_spreads_130 (by decide) (fun h130 => ?_) (fun h130 => ?_)
    · rw [zi_le (by omega) (by omega)] at h130
      have e2 : zi (zMx (zRw bd t 6) (-1000000) (i + 1)) = zi (zMx (zRw bd t 6) (-1000000) i) := congrArg zi (if_pos (by omega))
      refine wx_iload_n (i := 3) dX9_spreads_138 rfl rfl ?_
      refine wx_istore_n (i := 3) dX9_spreads_139 rfl (Nat.le_of_ble_eq_true rfl) rfl ?_
      refine wx_inc (c := 1) dX9_spreads_140 rfl (by decide) (Nat.le_of_ble_eq_true rfl) rfl ?_
      refine wx_goto (tgt := 48) dX9_spreads_143 (by decide) ?_
      rw [nI_1]
      have e := hK (some (.int (zi (zRw bd t 6 i)))) y6
      rw [e1, e2] at e
      exact e
    · rw [zi_le (by omega) (by omega)] at h130
      have e2 : zi (zMx (zRw bd t 6) (-1000000) (i + 1)) = zi (zRw bd t 6 i) := congrArg zi (if_neg (by omega))
      refine wx_iload dX9_spreads_133 rfl ?_
      refine wx_goto (tgt := 139) dX9_spreads_135 (by decide) ?_
      refine wx_istore_n (i := 3) dX9_spreads_139 rfl (Nat.le_of_ble_eq_true rfl) rfl ?_
      refine wx_inc (c := 1) dX9_spreads_140 rfl (by decide) (Nat.le_of_ble_eq_true rfl) rfl ?_
      refine wx_goto (tgt := 48) dX9_spreads_143 (by decide) ?_
      rw [nI_1]
      have e := hK (some (.int (zi (zRw bd t 6 i)))) y6
      rw [e1, e2] at e
      exact e
theorem zMxb {f : Nat → Int} {n : Nat} (h : ∀ z, -100000 ≤ f z ∧ f z ≤ 100000) : (-1000000 ≤ zMx f (-1000000) n ∧ zMx f (-1000000) n ≤ 1000000) ∧ (-1000000 ≤ zMn f 1000000 n ∧ zMn f 1000000 n ≤ 1000000) := by
  refine ⟨?_, ?_⟩
  · rcases (zMx_spec f (-1000000) n).2 with q | ⟨j, _, q⟩
    · rw [q]; omega
    · have := h j; rw [q]; omega
  · rcases (zMn_spec f 1000000 n).2 with q | ⟨j, _, q⟩
    · rw [q]; omega
    · have := h j; rw [q]; omega
theorem lp_mb2 {d : Nat} {K : List Value → zS → Prop} {mm : zM} {bd : Nat → Nat → Int} {n : Nat} {st : Int × List Nat} {t : List Nat} (hO : zRo bd n) (hC : zMb bd n mm) (hsh : ∀ r, r < 6 → mm 149 r = nI (t.getD r 0)) (h12 : zSu t 6 = 12) (ht : ∀ r, t.getD r 0 ≤ 12) (hst : zMs2 st mm) (h3 : zCn t 6 ≤ 3) {x1 : Int32} (hK : ∀ m2 : zM, zFb mm m2 → zMs2 (if zCn t 6 ≤ 3 then zStp (zSpt bd n) st t else st) m2 → K [] (zG m2))  : ∀ (c i : Nat) (y5 y6 : Option Value), i + c = n →  wx (d) mX9_spreads 48 [some (.ref 128), some (.int x1), some (.int (zi (zMn (zRw bd t 6) 1000000 i))), some (.int (zi (zMx (zRw bd t 6) (-1000000) i))), some (.int (nI i)), y5, y6] [] (zG mm) K := by
  intro c
  induction c with
  | zero =>
    intro i y5 y6 hi 
    obtain rfl : i = n := by omega
    have hwb : ∀ z, -100000 ≤ zRw bd t 6 z ∧ zRw bd t 6 z ≤ 100000 := fun z => by
      have h := zRw_bd hO.1 t z 6
      rw [h12] at h
      omega
    have hsp := zSpt_b hO h12
    have hse : ∀ m, zSpt bd m t = zSpr (zRw bd t 6) m := fun _ => rfl
    have hst1 := hst.1.2
    refine wx_iload dX9_spreads_48 rfl ?_
    refine wx_aload_n (i := 0) dX9_spreads_50 rfl rfl ?_
    refine wx_getIG (k := 128) dX9_spreads_51 zF_X9_7 zKo_128 rfl (Nat.le_of_ble_eq_true rfl) ?_
    refine wx_icmp_ge (tgt := 146) dX9_spreads_54 (by decide) (fun h54 => ?_) (fun h54 => ?_)
    · skip
      refine wx_iload_n (i := 3) dX9_spreads_146 rfl rfl ?_
      refine wx_iload_n (i := 2) dX9_spreads_147 rfl rfl ?_
      refine wx_isub dX9_spreads_148 ?_
      refine wx_aload_n (i := 0) dX9_spreads_149 rfl rfl ?_
      refine wx_getIG (k := 128) dX9_spreads_150 zF_X9_198 zKo_128 rfl (Nat.le_of_ble_eq_true rfl) ?_
      refine wx_icmp_ge (tgt := 193) dX9_spreads_153 (by decide) (fun h153 => ?_) (fun h153 => ?_)
      · rw [zi_sub, zSpr_o (by have := hO.2; omega) (fun z => ⟨by have := hwb z; omega, by have := hwb z; omega⟩), ← hse, hst.1.1, zi_le (by omega) (by omega)] at h153
        refine wx_vret dX9_spreads_193 rfl (Or.inl rfl) ?_
        refine hK mm (fun _ _ _ _ => rfl) ?_
        unfold zStp
        rw [if_pos h3, if_neg (by omega)]
        exact hst
      · rw [zi_sub, zSpr_o (by have := hO.2; omega) (fun z => ⟨by have := hwb z; omega, by have := hwb z; omega⟩), ← hse, hst.1.1, zi_le (by omega) (by omega)] at h153
        refine wx_aload_n (i := 0) dX9_spreads_156 rfl rfl ?_
        refine wx_iload_n (i := 3) dX9_spreads_157 rfl rfl ?_
        refine wx_iload_n (i := 2) dX9_spreads_158 rfl rfl ?_
        refine wx_isub dX9_spreads_159 ?_
        refine wx_putIG (k := 128) dX9_spreads_160 zF_X9_198 zKo_128 rfl (Nat.le_of_ble_eq_true rfl) rfl rfl ?_
        refine wx_iconst (v := 0) dX9_spreads_163 (by decide) ?_
        refine wx_istore dX9_spreads_164 (Nat.le_of_ble_eq_true rfl) rfl ?_
        rw [zi_sub, zSpr_o (by have := hO.2; omega) (fun z => ⟨by have := hwb z; omega, by have := hwb z; omega⟩), ← hse]
        exact lp_mb4 hO hC hsh h12 ht hst h3 (by omega) hK 6 0 _ _ _ _ _ _ (by omega) (fun c j u v => zU_off v) (zU_same _ _ _ _) (fun r hr => absurd hr (Nat.not_lt_zero r))
    · exact absurd (show mm 128 0 ≤ nI i by rw [hC.2]; exact nI_le (Nat.le_refl _) (by have := hO.2; omega)) h54 --end
  | succ c ih =>
    intro i y5 y6 hi 
    have hwb : ∀ z, -100000 ≤ zRw bd t 6 z ∧ zRw bd t 6 z ≤ 100000 := fun z => by
      have h := zRw_bd hO.1 t z 6
      rw [h12] at h
      omega
    refine wx_iload dX9_spreads_48 rfl ?_
    refine wx_aload_n (i := 0) dX9_spreads_50 rfl rfl ?_
    refine wx_getIG (k := 128) dX9_spreads_51 zF_X9_7 zKo_128 rfl (Nat.le_of_ble_eq_true rfl) ?_
    refine wx_icmp_ge (tgt := 146) dX9_spreads_54 (by decide) (fun h54 => ?_) (fun h54 => ?_)
    · exact absurd (show mm 128 0 ≤ nI i from h54) (by rw [hC.2]; exact nI_ge (by omega) (by have := hO.2; omega)) --end
    · skip
      refine wx_bipush (v := 12) dX9_spreads_57 (by decide) ?_
      refine wx_aload_n (i := 0) dX9_spreads_59 rfl rfl ?_
      refine wx_getRG (k := 128) (t := 140) dX9_spreads_60 zF_X9_62 zKo_128 rfl (Nat.le_of_ble_eq_true rfl) zRf_128_19 ?_
      refine wx_bipush (v := 96) dX9_spreads_63 (by decide) ?_
      refine wx_iload dX9_spreads_65 rfl ?_
      refine wx_iadd dX9_spreads_67 ?_
      refine wx_ialdG (k := 140) (j := 16 * 6 + i) dX9_spreads_68 zK_140 (Nat.le_of_ble_eq_true rfl) ?_ ?_ ?_
      · (simp only [show (96 : Int32) = zi 96 from rfl, zi_nI, zi_add] <;> first | done | exact congrArg zi (by omega))
      · exact ⟨by have := hO.2; omega, by decide⟩
      refine wx_imul dX9_spreads_69 ?_
      refine wx_istore dX9_spreads_70 (Nat.le_of_ble_eq_true rfl) rfl ?_
      refine wx_iconst (v := 0) dX9_spreads_72 (by decide) ?_
      refine wx_istore dX9_spreads_73 (Nat.le_of_ble_eq_true rfl) rfl ?_
      rw [hC.1 6 i (by decide) (by have := hO.2; omega), show (12 : Int32) = zi 12 from rfl, zi_mul]
      have hb := hwb i
      have hbx := zMxb (f := zRw bd t 6) (n := i) hwb
      exact lp_mb3 hO hC hsh h12 ht hst (w := i) (by have := hO.2; omega) (fun y6 => lp_mb114 hb hbx.1 hbx.2 (fun y5 y6 => ih (i + 1) y5 y6 (by omega))) 6 0 (by omega)
theorem lp_mb1 {d : Nat} {K : List Value → zS → Prop} {mm : zM} {bd : Nat → Nat → Int} {n : Nat} {st : Int × List Nat} {t : List Nat} (hO : zRo bd n) (hC : zMb bd n mm) (hsh : ∀ r, r < 6 → mm 149 r = nI (t.getD r 0)) (h12 : zSu t 6 = 12) (ht : ∀ r, t.getD r 0 ≤ 12) (hst : zMs2 st mm) (hK : ∀ m2 : zM, zFb mm m2 → zMs2 (if zCn t 6 ≤ 3 then zStp (zSpt bd n) st t else st) m2 → K [] (zG m2))  : ∀ (c i : Nat) (y3 y4 y5 y6 : Option Value), i + c = 6 →  wx (d) mX9_spreads 4 [some (.ref 128), some (.int (nI (zCn t i))), some (.int (nI i)), y3, y4, y5, y6] [] (zG mm) K := by
  intro c
  induction c with
  | zero =>
    intro i y3 y4 y5 y6 hi 
    obtain rfl : i = 6 := by omega
    refine wx_iload_n (i := 2) dX9_spreads_4 rfl rfl ?_
    refine wx_bipush (v := 6) dX9_spreads_5 (by decide) ?_
    refine wx_icmp_ge (tgt := 33) dX9_spreads_7 (by decide) (fun h7 => ?_) (fun h7 => ?_)
    · skip
      refine wx_iload_n (i := 1) dX9_spreads_33 rfl rfl ?_
      refine wx_iconst (v := 3) dX9_spreads_34 (by decide) ?_
      refine wx_icmp_le (tgt := 39) dX9_spreads_35 (by decide) (fun h35 => ?_) (fun h35 => ?_)
      · have h35 : zCn t 6 ≤ 3 := Nat.not_lt.mp (fun u => absurd (show nI (zCn t 6) ≤ nI 3 from h35) (nI_ge u (by have := zCn_le t 6; omega)))
        refine wx_ldc dX9_spreads_39 zKc_X9_162 ?_
        refine wx_istore_n (i := 2) dX9_spreads_41 rfl (Nat.le_of_ble_eq_true rfl) rfl ?_
        refine wx_ldc dX9_spreads_42 zKc_X9_136 ?_
        refine wx_istore_n (i := 3) dX9_spreads_44 rfl (Nat.le_of_ble_eq_true rfl) rfl ?_
        refine wx_iconst (v := 0) dX9_spreads_45 (by decide) ?_
        refine wx_istore dX9_spreads_46 (Nat.le_of_ble_eq_true rfl) rfl ?_
        exact lp_mb2 hO hC hsh h12 ht hst h35 hK n 0 _ _ (by omega)
      · have h35 : ¬ zCn t 6 ≤ 3 := fun u => h35 (show nI (zCn t 6) ≤ nI 3 from nI_le u (by omega))
        refine wx_vret dX9_spreads_38 rfl (Or.inl rfl) ?_
        refine hK mm (fun _ _ _ _ => rfl) ?_
        rw [if_neg h35]
        exact hst
    · exact absurd (show nI 6 ≤ nI 6 from nI_le (by omega) (by omega)) h7 --end
  | succ c ih =>
    intro i y3 y4 y5 y6 hi 
    refine wx_iload_n (i := 2) dX9_spreads_4 rfl rfl ?_
    refine wx_bipush (v := 6) dX9_spreads_5 (by decide) ?_
    refine wx_icmp_ge (tgt := 33) dX9_spreads_7 (by decide) (fun h7 => ?_) (fun h7 => ?_)
    · exact absurd (show nI 6 ≤ nI i from h7) (nI_ge (by omega) (by omega)) --end
    · skip
      refine wx_iload_n (i := 1) dX9_spreads_10 rfl rfl ?_
      refine wx_aload_n (i := 0) dX9_spreads_11 rfl rfl ?_
      refine wx_getRG (k := 128) (t := 149) dX9_spreads_12 zF_X9_90 zKo_128 rfl (Nat.le_of_ble_eq_true rfl) zRf_128_31 ?_
      refine wx_iload_n (i := 2) dX9_spreads_15 rfl rfl ?_
      refine wx_ialdG (k := 149) dX9_spreads_16 zK_149 (Nat.le_of_ble_eq_true rfl) rfl ?_ ?_
      · exact ⟨by omega, by decide⟩
      refine wx_if_le (tgt := 24) dX9_spreads_17 (by decide) (fun h17 => ?_) (fun h17 => ?_)
      · rw [hsh i (by omega), zl_0, zi_nI, zi_le (by have := ht i; omega) (by omega)] at h17
        have hd : nI (zCn t i) + 0 = nI (zCn t (i + 1)) := by rw [zCn_n (by omega), show (0 : Int32) = nI 0 from rfl, nI_add]; rfl
        refine wx_iconst (v := 0) dX9_spreads_24 (by decide) ?_
        refine wx_iadd dX9_spreads_25 ?_
        refine wx_istore_n (i := 1) dX9_spreads_26 rfl (Nat.le_of_ble_eq_true rfl) rfl ?_
        refine wx_inc (c := 1) dX9_spreads_27 rfl (by decide) (Nat.le_of_ble_eq_true rfl) rfl ?_
        refine wx_goto (tgt := 4) dX9_spreads_30 (by decide) ?_
        rw [nI_1 i, hd]
        exact ih (i + 1) _ _ _ _ (by omega)
      · rw [hsh i (by omega), zl_0, zi_nI, zi_le (by have := ht i; omega) (by omega)] at h17
        have hd : nI (zCn t i) + 1 = nI (zCn t (i + 1)) := by rw [zCn_y (by omega), nI_1]
        refine wx_iconst (v := 1) dX9_spreads_20 (by decide) ?_
        refine wx_goto (tgt := 25) dX9_spreads_21 (by decide) ?_
        refine wx_iadd dX9_spreads_25 ?_
        refine wx_istore_n (i := 1) dX9_spreads_26 rfl (Nat.le_of_ble_eq_true rfl) rfl ?_
        refine wx_inc (c := 1) dX9_spreads_27 rfl (by decide) (Nat.le_of_ble_eq_true rfl) rfl ?_
        refine wx_goto (tgt := 4) dX9_spreads_30 (by decide) ?_
        rw [nI_1 i, hd]
        exact ih (i + 1) _ _ _ _ (by omega)
theorem s_X9_spreads {d : Nat} {K : List Value → zS → Prop} {mm : zM} {bd : Nat → Nat → Int} {n : Nat} {st : Int × List Nat} {t : List Nat} (hO : zRo bd n) (hC : zMb bd n mm) (hsh : ∀ r, r < 6 → mm 149 r = nI (t.getD r 0)) (h12 : zSu t 6 = 12) (ht : ∀ r, t.getD r 0 ≤ 12) (hst : zMs2 st mm) (hK : ∀ m2 : zM, zFb mm m2 → zMs2 (if zCn t 6 ≤ 3 then zStp (zSpt bd n) st t else st) m2 → K [] (zG m2))  : wm (d) mX9_spreads [.ref 128] (zG mm) K := by
  refine wm_of2 (L0 := [some (.ref 128), none, none, none, none, none, none]) zCm_X9_spreads (Or.inl rfl) (Nat.le_of_ble_eq_true rfl) rfl ?_
  refine wx_iconst (v := 0) dX9_spreads_0 (by decide) ?_
  refine wx_istore_n (i := 1) dX9_spreads_1 rfl (Nat.le_of_ble_eq_true rfl) rfl ?_
  refine wx_iconst (v := 0) dX9_spreads_2 (by decide) ?_
  refine wx_istore_n (i := 2) dX9_spreads_3 rfl (Nat.le_of_ble_eq_true rfl) rfl ?_
  exact lp_mb1 hO hC hsh h12 ht hst hK 6 0 _ _ _ _ (by omega)
