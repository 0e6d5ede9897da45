/-! the rings of the class: all that place goes through -/
theorem zDd_ge (d : Nat) : ∀ k : Nat, ∃ e, zDd d k = e + 4
  | 0 => ⟨d, rfl⟩
  | k + 1 => by
    obtain ⟨e, he⟩ := zDd_ge d k
    exact ⟨e + 2, by show zDd d k + 2 = _; rw [he]⟩
theorem zCls_0 (k b : Nat) : zCls k 0 b = [[]] := by
  cases k with
  | zero => rfl
  | succ k => show (if 0 = 0 then [[]] else _) = _; rw [if_pos rfl]
theorem zFol_1 (bd : Nat → Nat → Int) (n : Nat) (st : Int × List Nat) (pre : List Nat) : zFol bd n st pre [[]] = zStp (zSpt bd n) st (zPad pre) := by
  show zStp (zSpt bd n) st (zPad (pre ++ [])) = _
  rw [List.append_nil]
theorem zFol_fm (bd : Nat → Nat → Int) (n : Nat) (st : Int × List Nat) (pre : List Nat) (s : Nat) (l : List Nat) (F : Nat → List (List Nat)) : zFol bd n st pre ((s :: l).flatMap F) = zFol bd n (zFol bd n st pre (F s)) pre (l.flatMap F) := by
  rw [List.flatMap_cons, zFol_app]
theorem zFol_f1 (bd : Nat → Nat → Int) (n : Nat) (st : Int × List Nat) (pre : List Nat) (F : Nat → List (List Nat)) : zFol bd n st pre ([0].flatMap F) = zFol bd n st pre (F 0) := by
  rw [zFol_fm]
  rfl
theorem lp_place0 {d : Nat} {K : List Value → zS → Prop} {mm : zM} {bd : Nat → Nat → Int} {n : Nat} {st : Int × List Nat} {pre : List Nat} {left b ring : Nat} {D : Nat} (h6 : ring ≤ 6) (hb : b ≤ 3) (h12 : zSu pre ring = 12) (hl : pre.length = ring) (hO : zRo bd n) (hC : zRc bd n mm) (hsh : ∀ r, r < ring → mm 112 r = nI (pre.getD r 0)) (hrow : ∀ z, z < n → mm (107 + 1 + b) z = zi (zRw bd pre ring z)) (hst : zRs st mm) {k : Nat} (hK : ∀ m2 : zM, zFp b ring mm m2 → zRs (zFol bd n st pre (zCls k 0 b)) m2 → K [] (zG m2)) : wm (D + 3) mX5_place [.ref 98, .int (nI ring), .int (nI 0), .int (nI b)] (zG mm) K := by
  refine wm_of2 (L0 := [some (.ref 98), some (.int (nI ring)), some (.int (nI 0)), some (.int (nI b)), none, none]) zCm_X5_place (Or.inl rfl) (Nat.le_of_ble_eq_true rfl) rfl ?_
  refine wx_iload_n (i := 2) dX5_place_0 rfl rfl ?_
  refine wx_if_ne (tgt := 11) dX5_place_1 (by decide) (fun h1 => ?_) (fun h1 => ?_)
  · exact absurd rfl h1 --end
  · skip
    refine wx_aload_n (i := 0) dX5_place_4 rfl rfl ?_
    refine wx_iload_n (i := 1) dX5_place_5 rfl rfl ?_
    refine wx_iload_n (i := 3) dX5_place_6 rfl rfl ?_
    refine wx_V2 dX5_place_7 zPV_X5_keepIfBetter zLk_X5_50 rfl (Nat.le_of_ble_eq_true rfl) (Nat.le_of_ble_eq_true rfl) (Or.inr rfl) ?_
    refine s_X5_keepIfBetter hO hC hl hb hsh hrow hst h6 h12 (fun m2 hf hs => ?_)
    refine wx_r0 ?_
    refine wx_vret dX5_place_10 rfl (Or.inl rfl) ?_
    exact hK m2 ⟨fun c j u v => hf c j (by omega) v, fun r _ => hf 112 r (by decide) (by omega)⟩ (by rw [zCls_0, zFol_1]; exact hs)
theorem lp_placeN {d : Nat} {K : List Value → zS → Prop} {mm : zM} {bd : Nat → Nat → Int} {n : Nat} {st : Int × List Nat} {pre : List Nat} {left b ring : Nat} {D : Nat} (h6 : ring ≤ 6) (hb : b ≤ 3) (h0 : ¬ left = 0) (hl12 : left ≤ 12) (hN : ring = 6 ∨ b = 3) (hK : K [] (zG mm)) : wm (D + 3) mX5_place [.ref 98, .int (nI ring), .int (nI left), .int (nI b)] (zG mm) K := by
  refine wm_of2 (L0 := [some (.ref 98), some (.int (nI ring)), some (.int (nI left)), some (.int (nI b)), none, none]) zCm_X5_place (Or.inl rfl) (Nat.le_of_ble_eq_true rfl) rfl ?_
  refine wx_iload_n (i := 2) dX5_place_0 rfl rfl ?_
  refine wx_if_ne (tgt := 11) dX5_place_1 (by decide) (fun h1 => ?_) (fun h1 => ?_)
  · skip
    refine wx_iload_n (i := 1) dX5_place_11 rfl rfl ?_
    refine wx_bipush (v := 6) dX5_place_12 (by decide) ?_
    refine wx_icmp_ge (tgt := 22) dX5_place_14 (by decide) (fun h14 => ?_) (fun h14 => ?_)
    · skip
      refine wx_vret dX5_place_22 rfl (Or.inl rfl) ?_
      exact hK
    · have h14 : ring < 6 := Nat.not_le.mp (fun u => h14 (show nI 6 ≤ nI ring from nI_le u (by omega)))
      refine wx_iload_n (i := 3) dX5_place_17 rfl rfl ?_
      refine wx_iconst (v := 3) dX5_place_18 (by decide) ?_
      refine wx_icmp_lt (tgt := 23) dX5_place_19 (by decide) (fun h19 => ?_) (fun h19 => ?_)
      · rw [zl_3, zi_nI, zi_lt (by omega) (by omega)] at h19
        exact absurd h19 (by omega) --end
      · skip
        refine wx_vret dX5_place_22 rfl (Or.inl rfl) ?_
        exact hK
  · rw [zl_0, zi_nI, zi_eq (by omega) (by omega)] at h1
    exact absurd (by omega) h0 --end
theorem lp_shares {d : Nat} {K : List Value → zS → Prop} {mm : zM} {k : Nat} (hpl : zPl k) {bd : Nat → Nat → Int} {n : Nat} {pre : List Nat} {left b ring : Nat} (h6 : ring + (k + 1) = 6) (hb : b < 3) (h0 : ¬ left = 0) (h12 : zSu pre ring + left = 12) (hl : pre.length = ring) (hO : zRo bd n) (hC : zRc bd n mm) (hsh : ∀ r, r < ring → mm 112 r = nI (pre.getD r 0)) (hrow : ∀ z, z < n → mm (107 + 1 + b) z = zi (zRw bd pre ring z)) {lo : Nat} (hlo : lo = if (k = 0 ∨ b + 1 = 3) then left else 1) {R : Int × List Nat} (hK : ∀ m2 : zM, zFp b ring mm m2 → zRs R m2 → K [] (zG m2))  : ∀ (c i : Nat) (m1 : zM) (st1 : Int × List Nat), i + c = (left - lo + 1) → (zFp b ring mm m1) → (zRs st1 m1) → (zFol bd n st1 pre ((zDt (left - i) c ++ [0]).flatMap (fun s => (zCls k (left - s) (if s = 0 then b else b + 1)).map (fun t => s :: t))) = R) → wx (zDd d k + 2) mX5_place 48 [some (.ref 98), some (.int (nI ring)), some (.int (nI left)), some (.int (nI b)), some (.int (if (k = 0 ∨ b + 1 = 3) then 1 else 0)), some (.int (nI (left - i)))] [] (zG m1) K := by
  intro c
  induction c with
  | zero =>
    intro i m1 st1 hi hf hs hR
    obtain rfl : i = (left - lo + 1) := by omega
    refine wx_iload dX5_place_48 rfl ?_
    refine wx_iload dX5_place_50 rfl ?_
    refine wx_eqb (tgt := 59) dX5_place_52 (by decide) (fun h52 => ?_) (fun h52 => ?_)
    · have hll : lo = 1 := by rw [hlo, if_neg h52]
      refine wx_iconst (v := 1) dX5_place_59 (by decide) ?_
      refine wx_icmp_lt (tgt := 78) dX5_place_60 (by decide) (fun h60 => ?_) (fun h60 => ?_)
      · skip
        refine wx_aload_n (i := 0) dX5_place_78 rfl rfl ?_
        refine wx_iload_n (i := 1) dX5_place_79 rfl rfl ?_
        refine wx_iconst (v := 0) dX5_place_80 (by decide) ?_
        refine wx_iload_n (i := 2) dX5_place_81 rfl rfl ?_
        refine wx_iload_n (i := 3) dX5_place_82 rfl rfl ?_
        refine wx_V4 dX5_place_83 zPV_X5_placeShare zLk_X5_54 rfl (Nat.le_of_ble_eq_true rfl) (Nat.le_of_ble_eq_true rfl) (Or.inr rfl) ?_
        refine s_X5_placeShare (k := k) (share := 0) hpl h6 hb (by omega) h12 hl hO (zRc_fp hC hf (by omega)) (fun r hr => by rw [hf.2 r hr]; exact hsh r hr) (fun z hz => by rw [hf.1 _ z (by omega) (by omega)]; exact hrow z hz) hs (fun m2 hf2 hs2 => ?_)
        refine wx_r0 ?_
        refine wx_vret dX5_place_86 rfl (Or.inl rfl) ?_
        refine hK m2 (zFp_trans hf hf2) ?_
        rw [← hR]
        show zRs (zFol bd n st1 pre ([0].flatMap (fun s => (zCls k (left - s) (if s = 0 then b else b + 1)).map (fun t => s :: t)))) m2
        rw [zFol_f1]
        exact hs2
      · first | exact absurd (show nI (left - (left - lo + 1)) < nI left from nI_lt (by omega) (by omega)) h60 | exact absurd (show nI (left - (left - lo + 1)) < nI 1 from nI_lt (by omega) (by omega)) h60 --end
    · have hll : lo = left := by rw [hlo, if_pos h52]
      refine wx_iload_n (i := 2) dX5_place_55 rfl rfl ?_
      refine wx_goto (tgt := 60) dX5_place_56 (by decide) ?_
      refine wx_icmp_lt (tgt := 78) dX5_place_60 (by decide) (fun h60 => ?_) (fun h60 => ?_)
      · skip
        refine wx_aload_n (i := 0) dX5_place_78 rfl rfl ?_
        refine wx_iload_n (i := 1) dX5_place_79 rfl rfl ?_
        refine wx_iconst (v := 0) dX5_place_80 (by decide) ?_
        refine wx_iload_n (i := 2) dX5_place_81 rfl rfl ?_
        refine wx_iload_n (i := 3) dX5_place_82 rfl rfl ?_
        refine wx_V4 dX5_place_83 zPV_X5_placeShare zLk_X5_54 rfl (Nat.le_of_ble_eq_true rfl) (Nat.le_of_ble_eq_true rfl) (Or.inr rfl) ?_
        refine s_X5_placeShare (k := k) (share := 0) hpl h6 hb (by omega) h12 hl hO (zRc_fp hC hf (by omega)) (fun r hr => by rw [hf.2 r hr]; exact hsh r hr) (fun z hz => by rw [hf.1 _ z (by omega) (by omega)]; exact hrow z hz) hs (fun m2 hf2 hs2 => ?_)
        refine wx_r0 ?_
        refine wx_vret dX5_place_86 rfl (Or.inl rfl) ?_
        refine hK m2 (zFp_trans hf hf2) ?_
        rw [← hR]
        show zRs (zFol bd n st1 pre ([0].flatMap (fun s => (zCls k (left - s) (if s = 0 then b else b + 1)).map (fun t => s :: t)))) m2
        rw [zFol_f1]
        exact hs2
      · first | exact absurd (show nI (left - (left - lo + 1)) < nI left from nI_lt (by omega) (by omega)) h60 | exact absurd (show nI (left - (left - lo + 1)) < nI 1 from nI_lt (by omega) (by omega)) h60 --end
  | succ c ih =>
    intro i m1 st1 hi hf hs hR
    refine wx_iload dX5_place_48 rfl ?_
    refine wx_iload dX5_place_50 rfl ?_
    refine wx_eqb (tgt := 59) dX5_place_52 (by decide) (fun h52 => ?_) (fun h52 => ?_)
    · have hll : lo = 1 := by rw [hlo, if_neg h52]
      refine wx_iconst (v := 1) dX5_place_59 (by decide) ?_
      refine wx_icmp_lt (tgt := 78) dX5_place_60 (by decide) (fun h60 => ?_) (fun h60 => ?_)
      · first | exact absurd (show nI (left - i) < nI left from h60) (nI_nlt (by omega) (by omega)) | exact absurd (show nI (left - i) < nI 1 from h60) (nI_nlt (by omega) (by omega)) --end
      · skip
        refine wx_aload_n (i := 0) dX5_place_63 rfl rfl ?_
        refine wx_iload_n (i := 1) dX5_place_64 rfl rfl ?_
        refine wx_iload dX5_place_65 rfl ?_
        refine wx_iload_n (i := 2) dX5_place_67 rfl rfl ?_
        refine wx_iload_n (i := 3) dX5_place_68 rfl rfl ?_
        refine wx_V4 dX5_place_69 zPV_X5_placeShare zLk_X5_54 rfl (Nat.le_of_ble_eq_true rfl) (Nat.le_of_ble_eq_true rfl) (Or.inr rfl) ?_
        refine s_X5_placeShare (k := k) (share := left - i) hpl h6 hb (by omega) h12 hl hO (zRc_fp hC hf (by omega)) (fun r hr => by rw [hf.2 r hr]; exact hsh r hr) (fun z hz => by rw [hf.1 _ z (by omega) (by omega)]; exact hrow z hz) hs (fun m2 hf2 hs2 => ?_)
        refine wx_r0 ?_
        refine wx_inc (c := (-1)) dX5_place_72 rfl (by decide) (Nat.le_of_ble_eq_true rfl) rfl ?_
        refine wx_goto (tgt := 48) dX5_place_75 (by decide) ?_
        rw [show nI (left - i) + (-1) = nI (left - (i + 1)) from by rw [zm_1, zi_nI, zi_nI, zi_add]; exact congrArg zi (by omega)]
        refine ih (i + 1) m2 _ (by omega) (zFp_trans hf hf2) hs2 ?_
        rw [← hR]
        show _ = zFol bd n st1 pre (((left - i) :: (zDt (left - i - 1) c ++ [0])).flatMap (fun s => (zCls k (left - s) (if s = 0 then b else b + 1)).map (fun t => s :: t)))
        rw [zFol_fm, show left - (i + 1) = left - i - 1 by omega]
    · have hll : lo = left := by rw [hlo, if_pos h52]
      refine wx_iload_n (i := 2) dX5_place_55 rfl rfl ?_
      refine wx_goto (tgt := 60) dX5_place_56 (by decide) ?_
      refine wx_icmp_lt (tgt := 78) dX5_place_60 (by decide) (fun h60 => ?_) (fun h60 => ?_)
      · first | exact absurd (show nI (left - i) < nI left from h60) (nI_nlt (by omega) (by omega)) | exact absurd (show nI (left - i) < nI 1 from h60) (nI_nlt (by omega) (by omega)) --end
      · skip
        refine wx_aload_n (i := 0) dX5_place_63 rfl rfl ?_
        refine wx_iload_n (i := 1) dX5_place_64 rfl rfl ?_
        refine wx_iload dX5_place_65 rfl ?_
        refine wx_iload_n (i := 2) dX5_place_67 rfl rfl ?_
        refine wx_iload_n (i := 3) dX5_place_68 rfl rfl ?_
        refine wx_V4 dX5_place_69 zPV_X5_placeShare zLk_X5_54 rfl (Nat.le_of_ble_eq_true rfl) (Nat.le_of_ble_eq_true rfl) (Or.inr rfl) ?_
        refine s_X5_placeShare (k := k) (share := left - i) hpl h6 hb (by omega) h12 hl hO (zRc_fp hC hf (by omega)) (fun r hr => by rw [hf.2 r hr]; exact hsh r hr) (fun z hz => by rw [hf.1 _ z (by omega) (by omega)]; exact hrow z hz) hs (fun m2 hf2 hs2 => ?_)
        refine wx_r0 ?_
        refine wx_inc (c := (-1)) dX5_place_72 rfl (by decide) (Nat.le_of_ble_eq_true rfl) rfl ?_
        refine wx_goto (tgt := 48) dX5_place_75 (by decide) ?_
        rw [show nI (left - i) + (-1) = nI (left - (i + 1)) from by rw [zm_1, zi_nI, zi_nI, zi_add]; exact congrArg zi (by omega)]
        refine ih (i + 1) m2 _ (by omega) (zFp_trans hf hf2) hs2 ?_
        rw [← hR]
        show _ = zFol bd n st1 pre (((left - i) :: (zDt (left - i - 1) c ++ [0])).flatMap (fun s => (zCls k (left - s) (if s = 0 then b else b + 1)).map (fun t => s :: t)))
        rw [zFol_fm, show left - (i + 1) = left - i - 1 by omega]
