/-! calls: shells, grits, rings -/
theorem zKI_fr {g : Nat → Nat → Int} {L : Int} {n : Nat} {mm m2 : zM} (h : zKI g L n mm) (f : ∀ c j, (c = 2 ∨ (4 ≤ c ∧ c ≤ 12)) → m2 c j = mm c j) : zKI g L n m2 := by
  obtain ⟨h1, h2, h3, h4⟩ := h
  refine ⟨h1, ⟨fun t i a b => ?_, ?_, ?_⟩, ?_, ?_⟩
  · rw [f _ _ (by omega)]; exact h2.1 t i a b
  · rw [f 2 7 (by omega)]; exact h2.2.1
  · rw [f 2 8 (by omega)]; exact h2.2.2
  · rw [f 7 0 (by omega)]; exact h3
  · rcases h4 with h4 | ⟨⟨k1, k2⟩, k3, k4, k, ⟨k5, k6, k7, k8⟩, k9⟩
    · exact Or.inl (by rw [f 2 11 (by omega)]; exact h4)
    · exact Or.inr ⟨⟨by rw [f 7 1 (by omega)]; exact k1, by rw [f 7 2 (by omega)]; exact k2⟩, fun i hi => by rw [f 8 i (by omega)]; exact k3 i hi, by rw [f 2 9 (by omega)]; exact k4, k, ⟨k5, k6, by rw [f 2 10 (by omega)]; exact k7, fun j hj => by rw [f 9 j (by omega)]; exact k8 j hj⟩, k9⟩
theorem zMd_fr {g : Nat → Nat → Int} {L : Int} {n : Nat} {mm m2 : zM} (h : zMd g L n mm) (f : ∀ c j, (c = 131 ∨ (c = 128 ∧ (j = 0 ∨ j = 7))) → m2 c j = mm c j) : zMd g L n m2 := ⟨fun t i a b => by rw [f 131 _ (by omega)]; exact h.1 t i a b, by rw [f 128 7 (by omega)]; exact h.2.1, by rw [f 128 0 (by omega)]; exact h.2.2⟩
theorem zRI_fr {bd : Nat → Nat → Int} {n : Nat} {mm m2 : zM} (h : zRI bd n mm) (f : ∀ c j, (98 ≤ c ∧ c ≤ 113) → m2 c j = mm c j) : zRI bd n m2 := by
  obtain ⟨h1, h2, ⟨t1, h3⟩, h4⟩ := h
  refine ⟨h1, ⟨fun r z u v => by rw [f _ z (by omega)]; exact h2.1 r z u v, by rw [f 98 4 (by omega)]; exact h2.2⟩, ⟨t1, fun r hr => by rw [f 113 r (by omega)]; exact h3 r hr⟩, ?_⟩
  rcases h4 with h4 | ⟨⟨k1, k2⟩, k3⟩
  · exact Or.inl (by rw [f 98 6 (by omega)]; exact h4)
  · exact Or.inr ⟨⟨by rw [f 98 5 (by omega)]; exact k1, k2⟩, fun r hr => by rw [f 113 r (by omega)]; exact k3 r hr⟩
theorem zGI_fr {pt : Nat → Int} {tk : Nat → Nat} {q : Nat} {mm m2 : zM} (h : zGI pt tk q mm) (f : ∀ c j, (117 ≤ c ∧ c ≤ 127) → ¬ (c = 117 ∧ j = 4) → m2 c j = mm c j) : zGI pt tk q m2 := by
  have hq := h.1.1
  refine ⟨zGc_of h.1 (f 117 3 (by omega) (by omega)) (funext fun j => f 118 j (by omega) (by omega)) (funext fun j => f 119 j (by omega) (by omega)), ?_⟩
  rcases h.2 with h2 | ⟨R, h2⟩
  · exact Or.inl (by rw [f 117 5 (by omega) (by omega)]; exact h2)
  · exact Or.inr ⟨R, fun u a b => ⟨(h2 u a b).1, fun x hx => by rw [f _ x (by omega) (by omega)]; exact (h2 u a b).2 x hx⟩⟩
theorem s_X6_warmthOf2 {d : Nat} {K : List Value → zS → Prop} {mm : zM} {z : Nat} (hz : z < 9) (h1 : ∀ j, j < 8 → mm 115 j = mm 141 j) (h2 : mm 114 2 = mm 141 8) (hK : K [.int (mm 141 z)] (zG mm)) : wm d mX6_warmthOf [.ref 114, .int (nI z)] (zG mm) K := by
  by_cases e : z = 8
  · subst e
    exact s_X6_warmthOf_a (by rw [h2]; exact hK)
  · exact s_X6_warmthOf (by omega) (by rw [h1 z (by omega)]; exact hK)
theorem s_X6_tellWarmth2 {d : Nat} {K : List Value → zS → Prop} {mm : zM} {z : Nat} {v : Int32} (hz : z < 9) (h1 : ∀ j, j < 8 → mm 115 j = mm 141 j) (h2 : mm 114 2 = mm 141 8) (hK : ∀ m1 : zM, (∀ c j, ¬ (114 ≤ c ∧ c ≤ 116) → m1 c j = mm c j) → (∀ j, j < 8 → m1 115 j = if j = z then v else mm 115 j) → (m1 114 2 = if z = 8 then v else mm 114 2) → K [.int (mm 141 z)] (zG m1)) : wm (d + 1) mX6_tellWarmth [.ref 114, .int (nI z), .int v] (zG mm) K := by
  by_cases e : z = 8
  · subst e
    refine s_X6_tellWarmth_a ?_
    rw [h2]
    refine hK _ (fun c j w => zU_off (by omega)) (fun j hj => ?_) ?_
    · rw [if_neg (by omega), zU_ne (by decide)]
    · rw [if_pos rfl, zU_same]
  · refine s_X6_tellWarmth (by omega) ?_
    rw [h1 z (by omega)]
    refine hK _ (fun c j w => zU_off (by omega)) (fun j hj => ?_) ?_
    · by_cases q : j = z
      · rw [if_pos q, q, zU_same]
      · rw [if_neg q, zU_off (by omega)]
    · rw [if_neg e, zU_ne (by decide)]
theorem op_warmth {d : Nat} {K : List Value → zS → Prop} {mm : zM} {sc : Nat → Int32} {ln b n : Nat} {a0 : Int32} (hI : zIn sc ln n b mm) (hb : b < 1000) (hK : ∀ (x : Int32) (m1 : zM), zAgr sc ln (b + 1) (d + 80) mX9_warmth [.ref 128, .int a0] (.int x) m1 → K [.int x] (zG m1))  : wm (d + 80) mX8_warmth [.ref 0, .int a0] (zG mm) K := by
  obtain ⟨hn4, hn16, hb1000, hz0, hz1⟩ := hI.1
  refine wm_of2 (L0 := [some (.ref 0), some (.int a0)]) zCm_X8_warmth (Or.inl rfl) (Nat.le_of_ble_eq_true rfl) rfl ?_
  refine wx_iload_n (i := 1) dX8_warmth_0 rfl rfl ?_
  refine wx_iconst (v := 0) dX8_warmth_1 (by decide) ?_
  refine wx_bipush (v := 8) dX8_warmth_2 (by decide) ?_
  refine wx_S3 dX8_warmth_4 zPS_X8_within zLk_X8_73 (Nat.le_of_ble_eq_true rfl) (Or.inr rfl) ?_
  refine s_X8_within _ _ _ ?_
  refine wx_r1 ?_
  refine wx_eqb (tgt := 21) dX8_warmth_7 (by decide) (fun h7 => ?_) (fun h7 => ?_)
  · have hbad := h7 --A
    refine wx_ldc dX8_warmth_21 zKc_X8_101 ?_
    refine wx_iret dX8_warmth_23 rfl rfl (Or.inl rfl) ?_
    exact hK _ _ (fun K' h => s_X9_warmth_bad (fun w => hbad w) (h mm (zIn_0 hI hb)))
  · obtain ⟨s, a, s1, s2, s3, s4, s5⟩ := hI.2.2.2.2.2.1
    obtain ⟨z, e1, e2⟩ := zNat (m := 8) (by omega) h7
    subst e1 --OK
    refine wx_aload_n (i := 0) dX8_warmth_10 rfl rfl ?_
    refine wx_getRG (k := 0) (t := 114) dX8_warmth_11 zF_X8_58 zKo_0 rfl (Nat.le_of_ble_eq_true rfl) zRf_0_6 ?_
    refine wx_iload_n (i := 1) dX8_warmth_14 rfl rfl ?_
    refine wx_V1 dX8_warmth_15 zPV_X6_warmthOf zLk_X8_209 rfl (Nat.le_of_ble_eq_true rfl) (Nat.le_of_ble_eq_true rfl) (Or.inr rfl) ?_
    refine s_X6_warmthOf2 (show z < 9 by omega) (fun j hj => by rw [s2 j hj, s4 j hj]) (by rw [s3, s5]) ?_
    refine wx_r1 ?_
    refine wx_goto (tgt := 23) dX8_warmth_18 (by decide) ?_
    refine wx_iret dX8_warmth_23 rfl rfl (Or.inl rfl) ?_
    exact hK _ _ (fun K' h => s_X9_warmth_ok (show z < 9 by omega) h7 (h mm (zIn_0 hI hb)))
theorem op_warm {d : Nat} {K : List Value → zS → Prop} {mm : zM} {sc : Nat → Int32} {ln b n : Nat} {a0 a1 : Int32} (hI : zIn sc ln n b mm) (hb : b < 1000) (hK : ∀ (x : Int32) (m1 : zM), zAgr sc ln (b + 1) (d + 80) mX9_warm [.ref 128, .int a0, .int a1] (.int x) m1 → K [.int x] (zG m1))  : wm (d + 80) mX8_warm [.ref 0, .int a0, .int a1] (zG mm) K := by
  obtain ⟨hn4, hn16, hb1000, hz0, hz1⟩ := hI.1
  refine wm_of2 (L0 := [some (.ref 0), some (.int a0), some (.int a1)]) zCm_X8_warm (Or.inl rfl) (Nat.le_of_ble_eq_true rfl) rfl ?_
  refine wx_iload_n (i := 1) dX8_warm_0 rfl rfl ?_
  refine wx_iconst (v := 0) dX8_warm_1 (by decide) ?_
  refine wx_bipush (v := 8) dX8_warm_2 (by decide) ?_
  refine wx_S3 dX8_warm_4 zPS_X8_within zLk_X8_73 (Nat.le_of_ble_eq_true rfl) (Or.inr rfl) ?_
  refine s_X8_within _ _ _ ?_
  refine wx_r1 ?_
  refine wx_eqb (tgt := 21) dX8_warm_7 (by decide) (fun h7 => ?_) (fun h7 => ?_)
  · have hbad := h7 --A
    refine wx_ldc dX8_warm_21 zKc_X8_101 ?_
    refine wx_iret dX8_warm_23 rfl rfl (Or.inl rfl) ?_
    exact hK _ _ (fun K' h => s_X9_warm_bad (fun w => hbad w.1) (h mm (zIn_0 hI hb)))
  · obtain ⟨s, a, s1, s2, s3, s4, s5⟩ := hI.2.2.2.2.2.1
    obtain ⟨z, e1, e2⟩ := zNat (m := 8) (by omega) h7
    subst e1
    refine wx_iload_n (i := 2) dX8_warm_10 rfl rfl ?_
    refine wx_ldc dX8_warm_11 zKc_X8_99 ?_
    refine wx_ldc dX8_warm_13 zKc_X8_100 ?_
    refine wx_S3 dX8_warm_15 zPS_X8_within zLk_X8_73 (Nat.le_of_ble_eq_true rfl) (Or.inr rfl) ?_
    refine s_X8_within _ _ _ ?_
    refine wx_r1 ?_
    refine wx_neb (tgt := 24) dX8_warm_18 (by decide) (fun h18 => ?_) (fun h18 => ?_)
    · obtain ⟨x, e3, e4⟩ := zInt (a := -100000) (c := 100000) (by omega) (by omega) h18 --OK
      refine wx_aload_n (i := 0) dX8_warm_24 rfl rfl ?_
      refine wx_getRG (k := 0) (t := 114) dX8_warm_25 zF_X8_58 zKo_0 rfl (Nat.le_of_ble_eq_true rfl) zRf_0_6 ?_
      refine wx_iload_n (i := 1) dX8_warm_28 rfl rfl ?_
      refine wx_iload_n (i := 2) dX8_warm_29 rfl rfl ?_
      refine wx_V2 dX8_warm_30 zPV_X6_tellWarmth zLk_X8_200 rfl (Nat.le_of_ble_eq_true rfl) (Nat.le_of_ble_eq_true rfl) (Or.inr rfl) ?_
      refine s_X6_tellWarmth2 (show z < 9 by omega) (fun j hj => by rw [s2 j hj, s4 j hj]) (by rw [s3, s5]) (fun m1 f1 f2 f3 => ?_)
      refine wx_r1 ?_
      refine wx_iret dX8_warm_33 rfl rfl (Or.inl rfl) ?_
      refine hK _ _ (fun K' h => s_X9_warm_ok (show z < 9 by omega) h7 h18 ?_)
      rw [f1 141 z (by omega)]
      refine h _ (zIn_S hI hb (fun c j w => ?_) ⟨fun j => if j = z then x else s j, if z = 8 then x else a, ⟨fun k hk => ?_, ?_⟩, fun j hj => ?_, ?_, fun j hj => ?_, ?_⟩)
      · rw [zU_off (by omega)]; exact f1 c j (by omega)
      · show -100000 ≤ (if k = z then x else s k) ∧ (if k = z then x else s k) ≤ 100000
        by_cases q : k = z
        · rw [if_pos q]; exact e4
        · rw [if_neg q]; exact s1.1 k hk
      · by_cases q : z = 8
        · rw [if_pos q]; exact e4
        · rw [if_neg q]; exact s1.2
      · show _ = zi (if j = z then x else s j)
        rw [zU_ne (by decide), f2 j hj]
        by_cases q : j = z
        · rw [if_pos q, if_pos q]; exact e3
        · rw [if_neg q, if_neg q]; exact s2 j hj
      · rw [zU_ne (by decide), f3]
        by_cases q : z = 8
        · rw [if_pos q, if_pos q]; exact e3
        · rw [if_neg q, if_neg q]; exact s3
      · show _ = zi (if j = z then x else s j)
        by_cases q : j = z
        · rw [if_pos q, q, zU_same]; exact e3
        · rw [if_neg q, zU_off (by omega), f1 141 j (by omega)]; exact s4 j hj
      · by_cases q : z = 8
        · rw [if_pos q, q, zU_same]; exact e3
        · rw [if_neg q, zU_off (by omega), f1 141 8 (by omega)]; exact s5
    · have hbad := h18 --B
      refine wx_ldc dX8_warm_21 zKc_X8_101 ?_
      refine wx_iret dX8_warm_23 rfl rfl (Or.inl rfl) ?_
      exact hK _ _ (fun K' h => s_X9_warm_bad (fun w => hbad w.2) (h mm (zIn_0 hI hb)))
theorem op_cool {d : Nat} {K : List Value → zS → Prop} {mm : zM} {sc : Nat → Int32} {ln b n : Nat} {a0 : Int32} (hI : zIn sc ln n b mm) (hb : b < 1000) (hK : ∀ (x : Int32) (m1 : zM), zAgr sc ln (b + 1) (d + 80) mX9_cool [.ref 128, .int a0] (.int x) m1 → K [.int x] (zG m1))  : wm (d + 80) mX8_cool [.ref 0, .int a0] (zG mm) K := by
  obtain ⟨hn4, hn16, hb1000, hz0, hz1⟩ := hI.1
  refine wm_of2 (L0 := [some (.ref 0), some (.int a0)]) zCm_X8_cool (Or.inl rfl) (Nat.le_of_ble_eq_true rfl) rfl ?_
  refine wx_iload_n (i := 1) dX8_cool_0 rfl rfl ?_
  refine wx_iconst (v := 1) dX8_cool_1 (by decide) ?_
  refine wx_sipush (v := 1000) dX8_cool_2 (by decide) ?_
  refine wx_S3 dX8_cool_5 zPS_X8_within zLk_X8_73 (Nat.le_of_ble_eq_true rfl) (Or.inr rfl) ?_
  refine s_X8_within _ _ _ ?_
  refine wx_r1 ?_
  refine wx_eqb (tgt := 22) dX8_cool_8 (by decide) (fun h8 => ?_) (fun h8 => ?_)
  · have hbad := h8 --A
    refine wx_iconst (v := (-1)) dX8_cool_22 (by decide) ?_
    refine wx_iret dX8_cool_23 rfl rfl (Or.inl rfl) ?_
    exact hK _ _ (fun K' h => s_X9_cool_bad (fun w => hbad w) (h mm (zIn_0 hI hb)))
  · obtain ⟨s, a, s1, s2, s3, s4, s5⟩ := hI.2.2.2.2.2.1
    obtain ⟨z, e1, e2⟩ := zNat (m := 1000) (by omega) (show 0 ≤ a0 ∧ a0 ≤ zi 1000 from ⟨Int32.le_trans (by decide) h8.1, h8.2⟩)
    subst e1 --OK
    refine wx_aload_n (i := 0) dX8_cool_11 rfl rfl ?_
    refine wx_getRG (k := 0) (t := 114) dX8_cool_12 zF_X8_58 zKo_0 rfl (Nat.le_of_ble_eq_true rfl) zRf_0_6 ?_
    refine wx_iload_n (i := 1) dX8_cool_15 rfl rfl ?_
    refine wx_V1 dX8_cool_16 zPV_X6_letGoBy zLk_X8_203 rfl (Nat.le_of_ble_eq_true rfl) (Nat.le_of_ble_eq_true rfl) (Or.inr rfl) ?_
    refine s_X6_letGoBy (s := s) (a := a) (show z ≤ 1000 by omega) s1 s3 s2 (fun m1 f1 f2 => ?_)
    refine wx_r1 ?_
    refine wx_goto (tgt := 23) dX8_cool_19 (by decide) ?_
    refine wx_iret dX8_cool_23 rfl rfl (Or.inl rfl) ?_
    refine hK _ _ (fun K' h => s_X9_cool_ok (s := s) (a := a) (show z ≤ 1000 by omega) s1 h8 (fun j hj => by rw [f1 141 (by decide)]; exact s4 j hj) (by rw [f1 141 (by decide)]; exact s5) (fun m2 g1 g2 g3 => ?_))
    refine h _ (zIn_S hI hb (fun c j w => ?_) ⟨zIt s a z, a, zIt_bd s1 z, fun j hj => ?_, ?_, g2, g3⟩)
    · rw [g1 c (by omega) (by omega), f1 c (by omega)]
    · rw [g1 115 (by decide) (by decide)]; exact f2 j hj
    · rw [g1 114 (by decide) (by decide), f1 114 (by decide)]; exact s3
theorem op_still {d : Nat} {K : List Value → zS → Prop} {mm : zM} {sc : Nat → Int32} {ln b n : Nat} {a0 : Int32} (hI : zIn sc ln n b mm) (hb : b < 1000) (hK : ∀ (x : Int32) (m1 : zM), zAgr sc ln (b + 1) (d + 80) mX9_still [.ref 128, .int a0] (.int x) m1 → K [.int x] (zG m1))  : wm (d + 80) mX8_still [.ref 0, .int a0] (zG mm) K := by
  obtain ⟨hn4, hn16, hb1000, hz0, hz1⟩ := hI.1
  refine wm_of2 (L0 := [some (.ref 0), some (.int a0)]) zCm_X8_still (Or.inl rfl) (Nat.le_of_ble_eq_true rfl) rfl ?_
  refine wx_iload_n (i := 1) dX8_still_0 rfl rfl ?_
  refine wx_iconst (v := 0) dX8_still_1 (by decide) ?_
  refine wx_ldc dX8_still_2 zKc_X8_100 ?_
  refine wx_S3 dX8_still_4 zPS_X8_within zLk_X8_73 (Nat.le_of_ble_eq_true rfl) (Or.inr rfl) ?_
  refine s_X8_within _ _ _ ?_
  refine wx_r1 ?_
  refine wx_eqb (tgt := 21) dX8_still_7 (by decide) (fun h7 => ?_) (fun h7 => ?_)
  · have hbad := h7 --A
    refine wx_iconst (v := (-1)) dX8_still_21 (by decide) ?_
    refine wx_iret dX8_still_22 rfl rfl (Or.inl rfl) ?_
    exact hK _ _ (fun K' h => s_X9_still_bad (fun w => hbad w) (h mm (zIn_0 hI hb)))
  · obtain ⟨s, a, s1, s2, s3, s4, s5⟩ := hI.2.2.2.2.2.1
    obtain ⟨x, e1, e2⟩ := zInt (a := 0) (c := 100000) (by omega) (by omega) h7
    subst e1 --OK
    refine wx_aload_n (i := 0) dX8_still_10 rfl rfl ?_
    refine wx_getRG (k := 0) (t := 114) dX8_still_11 zF_X8_58 zKo_0 rfl (Nat.le_of_ble_eq_true rfl) zRf_0_6 ?_
    refine wx_iload_n (i := 1) dX8_still_14 rfl rfl ?_
    refine wx_V1 dX8_still_15 zPV_X6_minutesTillStill zLk_X8_206 rfl (Nat.le_of_ble_eq_true rfl) (Nat.le_of_ble_eq_true rfl) (Or.inr rfl) ?_
    refine s_X6_minutesTillStill (s := s) (a := a) e2 s1 s3 s2 (fun m1 f1 => ?_)
    refine wx_r1 ?_
    refine wx_goto (tgt := 22) dX8_still_18 (by decide) ?_
    refine wx_iret dX8_still_22 rfl rfl (Or.inl rfl) ?_
    refine hK _ _ (fun K' h => s_X9_still_ok (s := s) (a := a) e2 s1 h7 (fun j hj => by rw [f1 141 (by decide)]; exact s4 j hj) (by rw [f1 141 (by decide)]; exact s5) (fun m2 g1 g2 => ?_))
    refine h _ (zIn_S hI hb (fun c j w => ?_) ⟨s, a, s1, fun j hj => ?_, ?_, fun j hj => ?_, ?_⟩)
    · rw [g1 c (by omega) (by omega) (by omega), f1 c (by omega)]
    · rw [g1 115 (by decide) (by decide) (by decide), f1 115 (by decide)]; exact s2 j hj
    · rw [g1 114 (by decide) (by decide) (by decide), f1 114 (by decide)]; exact s3
    · rw [g2 j (by omega), f1 141 (by decide)]; exact s4 j hj
    · rw [g2 8 (by omega), f1 141 (by decide)]; exact s5
