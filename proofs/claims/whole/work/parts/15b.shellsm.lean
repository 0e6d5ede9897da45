/-! cool and still of the reference, and of the class -/
theorem zAx_zi {f : Nat → Int32} {g : Nat → Int} : ∀ n : Nat, (∀ j, j ≤ n → f j = zi (g j) ∧ -1000000 ≤ g j ∧ g j ≤ 1000000) → ∃ x, zAx f n = zi x ∧ (∀ j, j ≤ n → g j ≤ x) ∧ ∃ j, j ≤ n ∧ x = g j
  | 0, h => ⟨g 0, (h 0 (Nat.le_refl 0)).1, fun j hj => by rw [show j = 0 by omega]; exact Int.le_refl _, 0, Nat.le_refl 0, rfl⟩
  | n + 1, h => by
    obtain ⟨x, h1, h2, j, hj, h3⟩ := zAx_zi n (fun j hj => h j (by omega))
    have hb := (h j (by omega)).2
    have hc := h (n + 1) (Nat.le_refl _)
    unfold zAx
    rw [h1, hc.1]
    by_cases q : x < g (n + 1)
    · rw [if_pos (by rw [zi_lt (by omega) (by omega)]; exact q)]
      refine ⟨_, rfl, fun i hi => ?_, n + 1, Nat.le_refl _, rfl⟩
      rcases Nat.lt_or_ge i (n + 1) with w | w
      · have := h2 i (by omega); omega
      · rw [show i = n + 1 by omega]; exact Int.le_refl _
    · rw [if_neg (by rw [zi_lt (by omega) (by omega)]; exact q)]
      refine ⟨x, rfl, fun i hi => ?_, j, by omega, h3⟩
      rcases Nat.lt_or_ge i (n + 1) with w | w
      · exact h2 i (by omega)
      · rw [show i = n + 1 by omega]; omega
theorem zAn_zi {f : Nat → Int32} {g : Nat → Int} : ∀ n : Nat, (∀ j, j ≤ n → f j = zi (g j) ∧ -1000000 ≤ g j ∧ g j ≤ 1000000) → ∃ x, zAn f n = zi x ∧ (∀ j, j ≤ n → x ≤ g j) ∧ ∃ j, j ≤ n ∧ x = g j
  | 0, h => ⟨g 0, (h 0 (Nat.le_refl 0)).1, fun j hj => by rw [show j = 0 by omega]; exact Int.le_refl _, 0, Nat.le_refl 0, rfl⟩
  | n + 1, h => by
    obtain ⟨x, h1, h2, j, hj, h3⟩ := zAn_zi n (fun j hj => h j (by omega))
    have hb := (h j (by omega)).2
    have hc := h (n + 1) (Nat.le_refl _)
    unfold zAn
    rw [h1, hc.1]
    by_cases q : g (n + 1) < x
    · rw [if_pos (by rw [zi_lt (by omega) (by omega)]; exact q)]
      refine ⟨_, rfl, fun i hi => ?_, n + 1, Nat.le_refl _, rfl⟩
      rcases Nat.lt_or_ge i (n + 1) with w | w
      · have := h2 i (by omega); omega
      · rw [show i = n + 1 by omega]; exact Int.le_refl _
    · rw [if_neg (by rw [zi_lt (by omega) (by omega)]; exact q)]
      refine ⟨x, rfl, fun i hi => ?_, j, by omega, h3⟩
      rcases Nat.lt_or_ge i (n + 1) with w | w
      · exact h2 i (by omega)
      · rw [show i = n + 1 by omega]; omega
/-- of the eight shells -/
theorem zAp8 {f : Nat → Int32} {s : Nat → Int} (h : ∀ j, j < 8 → f j = zi (s j)) (hb : ∀ j, j < 8 → -100000 ≤ s j ∧ s j ≤ 100000) : zAx f 7 - zAn f 7 = zi (zMx s (s 0) 8 - zMn s (s 0) 8) := by
  obtain ⟨x, e1, x1, j, hj, x2⟩ := zAx_zi (f := f) (g := s) 7 (fun j hj => ⟨h j (by omega), by have := hb j (by omega); omega⟩)
  obtain ⟨y, e2, y1, i, hi, y2⟩ := zAn_zi (f := f) (g := s) 7 (fun j hj => ⟨h j (by omega), by have := hb j (by omega); omega⟩)
  obtain ⟨⟨a1, a2⟩, a3⟩ := zMx_spec s (s 0) 8
  obtain ⟨⟨b1, b2⟩, b3⟩ := zMn_spec s (s 0) 8
  rw [e1, e2, zi_sub]
  have ex : x = zMx s (s 0) 8 := by
    have l1 : x ≤ zMx s (s 0) 8 := by rw [x2]; exact a2 j (by omega)
    have l2 : zMx s (s 0) 8 ≤ x := by
      rcases a3 with q | ⟨w, hw, q⟩
      · rw [q]; exact x1 0 (by omega)
      · rw [q]; exact x1 w (by omega)
    omega
  have ey : y = zMn s (s 0) 8 := by
    have l1 : zMn s (s 0) 8 ≤ y := by rw [y2]; exact b2 i (by omega)
    have l2 : y ≤ zMn s (s 0) 8 := by
      rcases b3 with q | ⟨w, hw, q⟩
      · rw [q]; exact y1 0 (by omega)
      · rw [q]; exact y1 w (by omega)
    omega
  rw [ex, ey]
/-- of shells and air -/
theorem zAp9 {f : Nat → Int32} {s : Nat → Int} {a : Int} (h : ∀ j, j < 8 → f j = zi (s j)) (h8 : f 8 = zi a) (hb : zBd s a) : zAx f 8 - zAn f 8 = zi (zSp s a) := by
  have hg : ∀ j, j ≤ 8 → f j = zi ((fun j => if j < 8 then s j else a) j) ∧ -1000000 ≤ (fun j => if j < 8 then s j else a) j ∧ (fun j => if j < 8 then s j else a) j ≤ 1000000 := fun j hj => by
    show f j = zi (if j < 8 then s j else a) ∧ -1000000 ≤ (if j < 8 then s j else a) ∧ (if j < 8 then s j else a) ≤ 1000000
    by_cases q : j < 8
    · rw [if_pos q]; exact ⟨h j q, by have := hb.1 j q; omega⟩
    · rw [if_neg q, show j = 8 by omega]; exact ⟨h8, by have := hb.2; omega⟩
  obtain ⟨x, e1, x1, j, hj, x2⟩ := zAx_zi 8 hg
  obtain ⟨y, e2, y1, i, hi, y2⟩ := zAn_zi 8 hg
  obtain ⟨⟨a1, a2⟩, a3⟩ := zMx_spec s a 8
  obtain ⟨⟨b1, b2⟩, b3⟩ := zMn_spec s a 8
  have xa := x1 8 (by omega)
  have ya := y1 8 (by omega)
  simp only [if_neg (show ¬ 8 < 8 by omega)] at xa ya
  rw [e1, e2, zi_sub]
  have ex : x = zMx s a 8 := by
    have l1 : x ≤ zMx s a 8 := by
      rw [x2]
      show (if j < 8 then s j else a) ≤ _
      by_cases q : j < 8
      · rw [if_pos q]; exact a2 j q
      · rw [if_neg q]; exact a1
    have l2 : zMx s a 8 ≤ x := by
      rcases a3 with q | ⟨w, hw, q⟩
      · rw [q]; exact xa
      · have := x1 w (by omega)
        simp only [if_pos hw] at this
        rw [q]; exact this
    omega
  have ey : y = zMn s a 8 := by
    have l1 : zMn s a 8 ≤ y := by
      rw [y2]
      show _ ≤ (if i < 8 then s i else a)
      by_cases q : i < 8
      · rw [if_pos q]; exact b2 i q
      · rw [if_neg q]; exact b1
    have l2 : y ≤ zMn s a 8 := by
      rcases b3 with q | ⟨w, hw, q⟩
      · rw [q]; exact ya
      · have := y1 w (by omega)
        simp only [if_pos hw] at this
        rw [q]; exact this
    omega
  rw [ex, ey]
  rfl
theorem lp_coolM {d : Nat} {K : List Value → zS → Prop} {mm : zM} {s : Nat → Int} {a : Int} {m : Nat} (hm : m ≤ 1000) (hb : zBd s a) (hK : ∀ m1 : zM, (∀ c, c ≠ 141 → c ≠ 151 → m1 c = mm c) → (∀ j, j < 8 → m1 141 j = zi (zIt s a m j)) → m1 141 8 = zi a → K [.int (zi (zMx (zIt s a m) (zIt s a m 0) 8 - zMn (zIt s a m) (zIt s a m 0) 8))] (zG m1)) : ∀ (c i : Nat) (m1 : zM), i + c = m → (∀ c, c ≠ 141 → c ≠ 151 → m1 c = mm c) → (∀ j, j < 8 → m1 141 j = zi (zIt s a i j)) → m1 141 8 = zi a → wx (d + 2) mX9_cool 15 [some (.ref 128), some (.int (nI m)), some (.int (nI i))] [] (zG m1) K := by
  intro c
  induction c with
  | zero =>
    intro i m1 hi hf hs h8
    have hin : i = m := by omega
    subst hin
    refine wx_iload_n (i := 2) dX9_cool_15 rfl rfl ?_
    refine wx_iload_n (i := 1) dX9_cool_16 rfl rfl ?_
    refine wx_icmp_ge (tgt := 30) dX9_cool_17 (by decide) (fun h17 => ?_) (fun h17 => ?_)
    · skip
      refine wx_aload_n (i := 0) dX9_cool_30 rfl rfl ?_
      refine wx_bipush (v := 8) dX9_cool_31 (by decide) ?_
      refine wx_V1 dX9_cool_33 zPV_X9_apart zLk_X9_210 rfl (Nat.le_of_ble_eq_true rfl) (Nat.le_of_ble_eq_true rfl) (Or.inr rfl) ?_
      refine s_X9_apart (n := 8) (by decide) ?_
      rw [zAp8 hs (zIt_bd hb i).1]
      refine wx_r1 ?_
      refine wx_iret dX9_cool_36 rfl rfl (Or.inl rfl) ?_
      exact hK m1 hf hs h8
    · exact absurd (nI_le (Nat.le_refl _) (by omega)) h17 --end
  | succ c ih =>
    intro i m1 hi hf hs h8
    refine wx_iload_n (i := 2) dX9_cool_15 rfl rfl ?_
    refine wx_iload_n (i := 1) dX9_cool_16 rfl rfl ?_
    refine wx_icmp_ge (tgt := 30) dX9_cool_17 (by decide) (fun h17 => ?_) (fun h17 => ?_)
    · exact absurd h17 (nI_ge (by omega) (by omega)) --end
    · skip
      refine wx_aload_n (i := 0) dX9_cool_20 rfl rfl ?_
      refine wx_V0 dX9_cool_21 zPV_X9_passes zLk_X9_207 rfl (Nat.le_of_ble_eq_true rfl) (Nat.le_of_ble_eq_true rfl) (Or.inr rfl) ?_
      refine s_X9_passes (s := zIt s a i) (a := a) (zIt_bd hb i) hs h8 (fun m2 hf2 hs2 h82 => ?_)
      refine wx_r0 ?_
      refine wx_inc (c := 1) dX9_cool_24 rfl (by decide) (Nat.le_of_ble_eq_true rfl) rfl ?_
      refine wx_goto (tgt := 15) dX9_cool_27 (by decide) ?_
      rw [nI_1]
      exact ih (i + 1) m2 (by omega) (fun c h1 h2 => (hf2 c h1 h2).trans (hf c h1 h2)) hs2 h82
theorem s_X9_cool_bad {d : Nat} {K : List Value → zS → Prop} {mm : zM} {a : Int32} (hb : ¬ ((1 ≤ a ∧ a ≤ 1000))) (hK : K [.int (-1)] (zG mm)) : wm (d + 2) mX9_cool [.ref 128, .int a] (zG mm) K := by
  refine wm_of2 (L0 := [some (.ref 128), some (.int a), none]) zCm_X9_cool (Or.inl rfl) (Nat.le_of_ble_eq_true rfl) rfl ?_
  refine wx_iload_n (i := 1) dX9_cool_0 rfl rfl ?_
  refine wx_iconst (v := 1) dX9_cool_1 (by decide) ?_
  refine wx_sipush (v := 1000) dX9_cool_2 (by decide) ?_
  refine wx_S3 dX9_cool_5 zPS_X9_in zLk_X9_116 (Nat.le_of_ble_eq_true rfl) (Or.inr rfl) ?_
  refine s_X9_in _ _ _ ?_
  refine wx_r1 ?_
  refine wx_neb (tgt := 13) dX9_cool_8 (by decide) (fun h8 => ?_) (fun h8 => ?_)
  · skip
    exact (hb (by assumption)).elim
  · skip
    refine wx_iconst (v := (-1)) dX9_cool_11 (by decide) ?_
    refine wx_iret dX9_cool_12 rfl rfl (Or.inl rfl) ?_
    exact hK
theorem s_X9_cool_ok {d : Nat} {K : List Value → zS → Prop} {mm : zM} {s : Nat → Int} {a : Int} {m : Nat} (hm : m ≤ 1000) (hb : zBd s a) (k1 : 1 ≤ nI m ∧ nI m ≤ 1000) (hs : ∀ j, j < 8 → mm 141 j = zi (s j)) (ha8 : mm 141 8 = zi a) (hK : ∀ m1 : zM, (∀ c, c ≠ 141 → c ≠ 151 → m1 c = mm c) → (∀ j, j < 8 → m1 141 j = zi (zIt s a m j)) → m1 141 8 = zi a → K [.int (zi (zMx (zIt s a m) (zIt s a m 0) 8 - zMn (zIt s a m) (zIt s a m 0) 8))] (zG m1)) : wm (d + 2) mX9_cool [.ref 128, .int (nI m)] (zG mm) K := by
  refine wm_of2 (L0 := [some (.ref 128), some (.int (nI m)), none]) zCm_X9_cool (Or.inl rfl) (Nat.le_of_ble_eq_true rfl) rfl ?_
  refine wx_iload_n (i := 1) dX9_cool_0 rfl rfl ?_
  refine wx_iconst (v := 1) dX9_cool_1 (by decide) ?_
  refine wx_sipush (v := 1000) dX9_cool_2 (by decide) ?_
  refine wx_S3 dX9_cool_5 zPS_X9_in zLk_X9_116 (Nat.le_of_ble_eq_true rfl) (Or.inr rfl) ?_
  refine s_X9_in _ _ _ ?_
  refine wx_r1 ?_
  refine wx_neb (tgt := 13) dX9_cool_8 (by decide) (fun h8 => ?_) (fun h8 => ?_)
  · skip
    refine wx_iconst (v := 0) dX9_cool_13 (by decide) ?_
    refine wx_istore_n (i := 2) dX9_cool_14 rfl (Nat.le_of_ble_eq_true rfl) rfl ?_
    exact lp_coolM hm hb hK m 0 mm (by omega) (fun _ _ _ => rfl) hs ha8
  · contradiction --end
theorem lp_st1 {d : Nat} {K : List Value → zS → Prop} {mm : zM} {x : Int32} (hK : wx d mX9_still 38 [some (.ref 128), some (.int x), none, none] [] (zG (va_up mm 152 (zCp (mm 141) (mm 152) 9))) K) : ∀ c i : Nat, i + c = 9 → wx (d) mX9_still 14 [some (.ref 128), some (.int x), some (.int (nI i)), none] [] (zG (va_up mm 152 (zCp (mm 141) (mm 152) i))) K := by
  intro c
  induction c with
  | zero =>
    intro i hi 
    refine wx_iload_n (i := 2) dX9_still_14 rfl rfl ?_
    refine wx_bipush (v := 9) dX9_still_15 (by decide) ?_
    refine wx_icmp_ge (tgt := 38) dX9_still_17 (by decide) (fun h17 => ?_) (fun h17 => ?_)
    · skip
      have hin : i = 9 := by omega
      subst hin
      refine wx_weak 2 ?_
      exact hK
    · exact absurd (show nI 9 ≤ nI i from nI_le (by omega) (by omega)) h17 --end
  | succ c ih =>
    intro i hi 
    refine wx_iload_n (i := 2) dX9_still_14 rfl rfl ?_
    refine wx_bipush (v := 9) dX9_still_15 (by decide) ?_
    refine wx_icmp_ge (tgt := 38) dX9_still_17 (by decide) (fun h17 => ?_) (fun h17 => ?_)
    · exact absurd (show nI 9 ≤ nI i from h17) (nI_ge (by omega) (by omega)) --end
    · skip
      refine wx_aload_n (i := 0) dX9_still_20 rfl rfl ?_
      refine wx_getRG (k := 128) (t := 152) dX9_still_21 zF_X9_99 zKo_128 rfl (Nat.le_of_ble_eq_true rfl) zRf_128_35 ?_
      refine wx_iload_n (i := 2) dX9_still_24 rfl rfl ?_
      refine wx_aload_n (i := 0) dX9_still_25 rfl rfl ?_
      refine wx_getRG (k := 128) (t := 141) dX9_still_26 zF_X9_65 zKo_128 rfl (Nat.le_of_ble_eq_true rfl) zRf_128_20 ?_
      refine wx_iload_n (i := 2) dX9_still_29 rfl rfl ?_
      refine wx_ialdG (k := 141) dX9_still_30 zK_141 (Nat.le_of_ble_eq_true rfl) rfl ?_ ?_
      · exact ⟨by omega, by decide⟩
      refine wx_iastG (k := 152) dX9_still_31 zK_152 (Nat.le_of_ble_eq_true rfl) rfl ?_ ?_
      · exact ⟨by omega, by decide⟩
      refine wx_inc (c := 1) dX9_still_32 rfl (by decide) (Nat.le_of_ble_eq_true rfl) rfl ?_
      refine wx_goto (tgt := 14) dX9_still_35 (by decide) ?_
      rw [nI_1, show va_up mm 152 (zCp (mm 141) (mm 152) i) 141 i = mm 141 i from rfl, zCp_succ]
      exact ih (i + 1) (by omega)
theorem lp_st3 {d : Nat} {K : List Value → zS → Prop} {mm : zM} {x y : Int32} (hK : wx d mX9_still 93 [some (.ref 128), some (.int x), some (.int y), none] [] (zG (va_up mm 141 (zCp (mm 152) (mm 141) 9))) K) : ∀ c i : Nat, i + c = 9 → wx (d) mX9_still 69 [some (.ref 128), some (.int x), some (.int y), some (.int (nI i))] [] (zG (va_up mm 141 (zCp (mm 152) (mm 141) i))) K := by
  intro c
  induction c with
  | zero =>
    intro i hi 
    refine wx_iload_n (i := 3) dX9_still_69 rfl rfl ?_
    refine wx_bipush (v := 9) dX9_still_70 (by decide) ?_
    refine wx_icmp_ge (tgt := 93) dX9_still_72 (by decide) (fun h72 => ?_) (fun h72 => ?_)
    · skip
      have hin : i = 9 := by omega
      subst hin
      refine wx_weak 3 ?_
      exact hK
    · exact absurd (show nI 9 ≤ nI i from nI_le (by omega) (by omega)) h72 --end
  | succ c ih =>
    intro i hi 
    refine wx_iload_n (i := 3) dX9_still_69 rfl rfl ?_
    refine wx_bipush (v := 9) dX9_still_70 (by decide) ?_
    refine wx_icmp_ge (tgt := 93) dX9_still_72 (by decide) (fun h72 => ?_) (fun h72 => ?_)
    · exact absurd (show nI 9 ≤ nI i from h72) (nI_ge (by omega) (by omega)) --end
    · skip
      refine wx_aload_n (i := 0) dX9_still_75 rfl rfl ?_
      refine wx_getRG (k := 128) (t := 141) dX9_still_76 zF_X9_65 zKo_128 rfl (Nat.le_of_ble_eq_true rfl) zRf_128_20 ?_
      refine wx_iload_n (i := 3) dX9_still_79 rfl rfl ?_
      refine wx_aload_n (i := 0) dX9_still_80 rfl rfl ?_
      refine wx_getRG (k := 128) (t := 152) dX9_still_81 zF_X9_99 zKo_128 rfl (Nat.le_of_ble_eq_true rfl) zRf_128_35 ?_
      refine wx_iload_n (i := 3) dX9_still_84 rfl rfl ?_
      refine wx_ialdG (k := 152) dX9_still_85 zK_152 (Nat.le_of_ble_eq_true rfl) rfl ?_ ?_
      · exact ⟨by omega, by decide⟩
      refine wx_iastG (k := 141) dX9_still_86 zK_141 (Nat.le_of_ble_eq_true rfl) rfl ?_ ?_
      · exact ⟨by omega, by decide⟩
      refine wx_inc (c := 1) dX9_still_87 rfl (by decide) (Nat.le_of_ble_eq_true rfl) rfl ?_
      refine wx_goto (tgt := 69) dX9_still_90 (by decide) ?_
      rw [nI_1, show va_up mm 141 (zCp (mm 152) (mm 141) i) 152 i = mm 152 i from rfl, zCp_succ]
      exact ih (i + 1) (by omega)
theorem lp_st2 {d : Nat} {K : List Value → zS → Prop} {mm : zM} {s : Nat → Int} {a e : Int} (he : 0 ≤ e ∧ e ≤ 100000) (hb : zBd s a) (r : Int32) (hK : ∀ (q : Nat) (m1 : zM), q ≤ 2001 → (if 2000 < q then (-4 : Int32) else nI q) = r → (∀ c, c ≠ 141 → c ≠ 151 → m1 c = mm c) → wx (d + 2) mX9_still 67 [some (.ref 128), some (.int (zi e)), some (.int (nI q)), none] [] (zG m1) K) : ∀ (c i : Nat) (m1 : zM), i + c = 2001 → zFirst (fun i => zSp (zIt s a i) a) e c i = r → (∀ c, c ≠ 141 → c ≠ 151 → m1 c = mm c) → (∀ j, j < 8 → m1 141 j = zi (zIt s a i j)) → m1 141 8 = zi a → wx (d + 2) mX9_still 40 [some (.ref 128), some (.int (zi e)), some (.int (nI i)), none] [] (zG m1) K := by
  intro c
  induction c with
  | zero =>
    intro i m1 hi hr hf hs h8
    have hin : i = 2001 := by omega
    subst hin
    subst hr
    refine wx_iload_n (i := 2) dX9_still_40 rfl rfl ?_
    refine wx_sipush (v := 2000) dX9_still_41 (by decide) ?_
    refine wx_icmp_gt (tgt := 67) dX9_still_44 (by decide) (fun h44 => ?_) (fun h44 => ?_)
    · skip
      exact hK 2001 m1 (by omega) rfl hf
    · exact absurd (show nI 2000 < nI 2001 from nI_lt (by omega) (by omega)) h44 --end
  | succ c ih =>
    intro i m1 hi hr hf hs h8
    have hD : -200000 ≤ zSp (zIt s a i) a ∧ zSp (zIt s a i) a ≤ 200000 := by
      have h1 := zMx_bd (n := 8) (zIt_bd hb i).1 hb.2
      have h2 := zMn_bd (n := 8) (zIt_bd hb i).1 hb.2
      unfold zSp
      omega
    have hr2 : (if zSp (zIt s a i) a ≤ e then nI i else zFirst (fun i => zSp (zIt s a i) a) e c (i + 1)) = r := hr
    refine wx_iload_n (i := 2) dX9_still_40 rfl rfl ?_
    refine wx_sipush (v := 2000) dX9_still_41 (by decide) ?_
    refine wx_icmp_gt (tgt := 67) dX9_still_44 (by decide) (fun h44 => ?_) (fun h44 => ?_)
    · exact absurd (show nI 2000 < nI i from h44) (nI_nlt (by omega) (by omega)) --end
    · skip
      refine wx_aload_n (i := 0) dX9_still_47 rfl rfl ?_
      refine wx_bipush (v := 9) dX9_still_48 (by decide) ?_
      refine wx_V1 dX9_still_50 zPV_X9_apart zLk_X9_210 rfl (Nat.le_of_ble_eq_true rfl) (Nat.le_of_ble_eq_true rfl) (Or.inr rfl) ?_
      refine s_X9_apart (n := 9) (by decide) ?_
      rw [zAp9 hs h8 (zIt_bd hb i)]
      refine wx_r1 ?_
      refine wx_iload_n (i := 1) dX9_still_53 rfl rfl ?_
      refine wx_icmp_le (tgt := 67) dX9_still_54 (by decide) (fun h54 => ?_) (fun h54 => ?_)
      · rw [zi_le (by omega) (by omega)] at h54
        rw [if_pos h54] at hr2
        exact hK i m1 (by omega) (by rw [if_neg (by omega)]; exact hr2) hf
      · rw [zi_le (by omega) (by omega)] at h54
        refine wx_aload_n (i := 0) dX9_still_57 rfl rfl ?_
        refine wx_V0 dX9_still_58 zPV_X9_passes zLk_X9_207 rfl (Nat.le_of_ble_eq_true rfl) (Nat.le_of_ble_eq_true rfl) (Or.inr rfl) ?_
        refine s_X9_passes (s := zIt s a i) (a := a) (zIt_bd hb i) hs h8 (fun m2 hf2 hs2 h82 => ?_)
        refine wx_r0 ?_
        refine wx_inc (c := 1) dX9_still_61 rfl (by decide) (Nat.le_of_ble_eq_true rfl) rfl ?_
        refine wx_goto (tgt := 40) dX9_still_64 (by decide) ?_
        rw [if_neg h54] at hr2
        rw [nI_1]
        exact ih (i + 1) m2 (by omega) hr2 (fun c h1 h2 => (hf2 c h1 h2).trans (hf c h1 h2)) hs2 h82
theorem s_X9_still_bad {d : Nat} {K : List Value → zS → Prop} {mm : zM} {a : Int32} (hb : ¬ ((0 ≤ a ∧ a ≤ 100000))) (hK : K [.int (-1)] (zG mm)) : wm (d + 2) mX9_still [.ref 128, .int a] (zG mm) K := by
  refine wm_of2 (L0 := [some (.ref 128), some (.int a), none, none]) zCm_X9_still (Or.inl rfl) (Nat.le_of_ble_eq_true rfl) rfl ?_
  refine wx_iload_n (i := 1) dX9_still_0 rfl rfl ?_
  refine wx_iconst (v := 0) dX9_still_1 (by decide) ?_
  refine wx_ldc dX9_still_2 zKc_X9_135 ?_
  refine wx_S3 dX9_still_4 zPS_X9_in zLk_X9_116 (Nat.le_of_ble_eq_true rfl) (Or.inr rfl) ?_
  refine s_X9_in _ _ _ ?_
  refine wx_r1 ?_
  refine wx_neb (tgt := 12) dX9_still_7 (by decide) (fun h7 => ?_) (fun h7 => ?_)
  · skip
    exact (hb (by assumption)).elim
  · skip
    refine wx_iconst (v := (-1)) dX9_still_10 (by decide) ?_
    refine wx_iret dX9_still_11 rfl rfl (Or.inl rfl) ?_
    exact hK
theorem lp_st38 {d : Nat} {K : List Value → zS → Prop} {mm : zM} {s : Nat → Int} {a e : Int} (he : 0 ≤ e ∧ e ≤ 100000) (hb : zBd s a) (hs : ∀ j, j < 8 → mm 141 j = zi (s j)) (ha8 : mm 141 8 = zi a) (hK : ∀ m1 : zM, (∀ c, c ≠ 141 → c ≠ 151 → c ≠ 152 → m1 c = mm c) → (∀ j, j < 9 → m1 141 j = mm 141 j) → K [.int (zFirst (fun i => zSp (zIt s a i) a) e 2001 0)] (zG m1)) : wx (d + 2) mX9_still 38 [some (.ref 128), some (.int (zi e)), none, none] [] (zG (va_up mm 152 (zCp (mm 141) (mm 152) 9))) K := by
  refine wx_iconst (v := 0) dX9_still_38 (by decide) ?_
  refine wx_istore_n (i := 2) dX9_still_39 rfl (Nat.le_of_ble_eq_true rfl) rfl ?_
  refine lp_st2 (mm := va_up mm 152 (zCp (mm 141) (mm 152) 9)) he hb (zFirst (fun i => zSp (zIt s a i) a) e 2001 0) (fun q m1 hq hqr hf => ?_) 2001 0 _ (by omega) rfl (fun _ _ _ => rfl) hs ha8
  refine wx_iconst (v := 0) dX9_still_67 (by decide) ?_
  refine wx_istore_n (i := 3) dX9_still_68 rfl (Nat.le_of_ble_eq_true rfl) rfl ?_
  have h := lp_st3 (d := d + 2) (K := K) (mm := m1) (x := zi e) (y := nI q) ?_ 9 0 (by omega)
  rw [zCp_up0] at h
  exact h
  have hend : K [.int (zFirst (fun i => zSp (zIt s a i) a) e 2001 0)] (zG (va_up m1 141 (zCp (m1 152) (m1 141) 9))) := by
    refine hK _ (fun c h1 h2 h3 => ?_) (fun j hj => ?_)
    · show va_up m1 141 _ c = _
      rw [show va_up m1 141 (zCp (m1 152) (m1 141) 9) c = m1 c from if_neg h1, hf c h1 h2]
      exact if_neg h3
    · show zCp (m1 152) (m1 141) 9 j = _
      unfold zCp
      rw [if_pos hj, hf 152 (by decide) (by decide)]
      exact if_pos hj
  refine wx_iload_n (i := 2) dX9_still_93 rfl rfl ?_
  refine wx_sipush (v := 2000) dX9_still_94 (by decide) ?_
  refine wx_icmp_le (tgt := 105) dX9_still_97 (by decide) (fun h97 => ?_) (fun h97 => ?_)
  · have h97 : ¬ 2000 < q := fun w => absurd (show nI q ≤ nI 2000 from h97) (nI_ge w (by omega))
    rw [if_neg h97] at hqr
    refine wx_iload_n (i := 2) dX9_still_105 rfl rfl ?_
    refine wx_iret dX9_still_106 rfl rfl (Or.inl rfl) ?_
    rw [hqr]
    exact hend
  · have h97 : 2000 < q := Nat.not_le.mp (fun w => h97 (show nI q ≤ nI 2000 from nI_le w (by omega)))
    rw [if_pos h97] at hqr
    refine wx_bipush (v := (-4)) dX9_still_100 (by decide) ?_
    refine wx_goto (tgt := 106) dX9_still_102 (by decide) ?_
    refine wx_iret dX9_still_106 rfl rfl (Or.inl rfl) ?_
    rw [hqr]
    exact hend
theorem s_X9_still_ok {d : Nat} {K : List Value → zS → Prop} {mm : zM} {s : Nat → Int} {a e : Int} (he : 0 ≤ e ∧ e ≤ 100000) (hb : zBd s a) (k1 : 0 ≤ zi e ∧ zi e ≤ 100000) (hs : ∀ j, j < 8 → mm 141 j = zi (s j)) (ha8 : mm 141 8 = zi a) (hK : ∀ m1 : zM, (∀ c, c ≠ 141 → c ≠ 151 → c ≠ 152 → m1 c = mm c) → (∀ j, j < 9 → m1 141 j = mm 141 j) → K [.int (zFirst (fun i => zSp (zIt s a i) a) e 2001 0)] (zG m1)) : wm (d + 2) mX9_still [.ref 128, .int (zi e)] (zG mm) K := by
  refine wm_of2 (L0 := [some (.ref 128), some (.int (zi e)), none, none]) zCm_X9_still (Or.inl rfl) (Nat.le_of_ble_eq_true rfl) rfl ?_
  refine wx_iload_n (i := 1) dX9_still_0 rfl rfl ?_
  refine wx_iconst (v := 0) dX9_still_1 (by decide) ?_
  refine wx_ldc dX9_still_2 zKc_X9_135 ?_
  refine wx_S3 dX9_still_4 zPS_X9_in zLk_X9_116 (Nat.le_of_ble_eq_true rfl) (Or.inr rfl) ?_
  refine s_X9_in _ _ _ ?_
  refine wx_r1 ?_
  refine wx_neb (tgt := 12) dX9_still_7 (by decide) (fun h7 => ?_) (fun h7 => ?_)
  · skip
    refine wx_iconst (v := 0) dX9_still_12 (by decide) ?_
    refine wx_istore_n (i := 2) dX9_still_13 rfl (Nat.le_of_ble_eq_true rfl) rfl ?_
    have h := lp_st1 (d := d + 2) (K := K) (mm := mm) (x := zi e) (lp_st38 he hb hs ha8 hK) 9 0 (by omega)
    rw [zCp_up0] at h
    exact h
  · contradiction --end
