/-! the grits of the class: wetsOf -/
theorem lp_most {d : Nat} {K : List Value → zS → Prop} {mm : zM} {pt : Nat → Int} {tk : Nat → Nat} {q S : Nat} {R : Nat → Nat → Nat} (hC : zGc pt tk q mm) (ho : zGo pt tk q R mm 0) (hS : mm 117 4 = zi (S : Int)) (hSb : S ≤ 100) {g u v vv : Nat} {f : Nat → Nat} {low : Int} (hg : g < q) (hu : u ≤ g) (hv : v ≤ 180) (hl : -3000 ≤ low ∧ low ≤ 3000) (hP : ∀ w, 1 ≤ w → w ≤ 30 → ((zCe pt u ((w * tk g : Nat) : Int) ∧ ((zLw (R (g + 1)) (low - ((w * tk g : Nat) : Int)) (low - ((w * tk g : Nat) : Int) + (S : Int)) : Nat) : Int) = (v : Int) - (w : Int)) ↔ f w = vv)) (hK : K [.int (nI (zGt f vv 30))] (zG mm)) : ∀ (c : Nat) (y : Option Value), c ≤ 30 → zGt f vv 30 = zGt f vv c → wx (d + 2) mX2_mostThatServe 4 [some (.ref 117), some (.int (zi ((u : Int) - 1))), some (.int (zi (((g + 1 : Nat) : Int) - 1))), some (.int (zi low)), some (.int (nI v)), some (.int (nI c)), y] [] (zG mm) K := by
  intro c
  induction c with
  | zero =>
    intro y hc hz
    refine wx_iload dX2_mostThatServe_4 rfl ?_
    refine wx_if_le (tgt := 70) dX2_mostThatServe_6 (by decide) (fun h6 => ?_) (fun h6 => ?_)
    · skip
      refine wx_iconst (v := 0) dX2_mostThatServe_70 (by decide) ?_
      refine wx_iret dX2_mostThatServe_71 rfl rfl (Or.inl rfl) ?_
      exact zki hK (congrArg nI hz)
    · exact absurd (show nI 0 ≤ (0 : Int32) from (nI_leI (a := 0) (b := 0) (by omega) (by omega)).mpr (Nat.le_refl _)) h6 --end
  | succ c ih =>
    intro y hc hz
    have hq6 := hC.1
    have hT := (hC.2.2 g hg).2
    have hmu : (c + 1) * tk g ≤ 30 * 100 := Nat.mul_le_mul (by omega) hT.2.2
    have hp := hP (c + 1) (by omega) (by omega)
    have hb9 := zLo_le (R (g + 1)) (low - (((c + 1) * tk g : Nat) : Int)).toNat (zLc (low - (((c + 1) * tk g : Nat) : Int)) (low - (((c + 1) * tk g : Nat) : Int) + (S : Int)))
    rw [show zLo (R (g + 1)) (low - (((c + 1) * tk g : Nat) : Int)).toNat (zLc (low - (((c + 1) * tk g : Nat) : Int)) (low - (((c + 1) * tk g : Nat) : Int) + (S : Int))) = zLw (R (g + 1)) (low - (((c + 1) * tk g : Nat) : Int)) (low - (((c + 1) * tk g : Nat) : Int) + (S : Int)) from rfl] at hb9
    refine wx_iload dX2_mostThatServe_4 rfl ?_
    refine wx_if_le (tgt := 70) dX2_mostThatServe_6 (by decide) (fun h6 => ?_) (fun h6 => ?_)
    · rw [show (0 : Int32) = nI 0 from rfl, nI_leI (by omega) (by omega)] at h6
      exact absurd h6 (by omega) --end
    · skip
      refine wx_iload_n (i := 3) dX2_mostThatServe_9 rfl rfl ?_
      refine wx_iload dX2_mostThatServe_10 rfl ?_
      refine wx_aload_n (i := 0) dX2_mostThatServe_12 rfl rfl ?_
      refine wx_getRG (k := 117) (t := 118) dX2_mostThatServe_13 zF_X2_9 zKo_117 rfl (Nat.le_of_ble_eq_true rfl) zRf_117_0 ?_
      refine wx_iload_n (i := 2) dX2_mostThatServe_16 rfl rfl ?_
      refine wx_ialdG (k := 118) (j := g) dX2_mostThatServe_17 zK_118 (Nat.le_of_ble_eq_true rfl) ?_ ?_ ?_
      · (rw [zi_nI]; exact congrArg zi (by omega))
      · exact ⟨by omega, by decide⟩
      refine wx_imul dX2_mostThatServe_18 ?_
      refine wx_isub dX2_mostThatServe_19 ?_
      rw [hT.1, nI_mul, zi_nI ((c + 1) * tk g), zi_sub]
      refine wx_istore dX2_mostThatServe_20 (Nat.le_of_ble_eq_true rfl) rfl ?_
      refine wx_aload_n (i := 0) dX2_mostThatServe_22 rfl rfl ?_
      refine wx_iload_n (i := 1) dX2_mostThatServe_23 rfl rfl ?_
      refine wx_iload dX2_mostThatServe_24 rfl ?_
      refine wx_aload_n (i := 0) dX2_mostThatServe_26 rfl rfl ?_
      refine wx_getRG (k := 117) (t := 118) dX2_mostThatServe_27 zF_X2_9 zKo_117 rfl (Nat.le_of_ble_eq_true rfl) zRf_117_0 ?_
      refine wx_iload_n (i := 2) dX2_mostThatServe_30 rfl rfl ?_
      refine wx_ialdG (k := 118) (j := g) dX2_mostThatServe_31 zK_118 (Nat.le_of_ble_eq_true rfl) ?_ ?_ ?_
      · (rw [zi_nI]; exact congrArg zi (by omega))
      · exact ⟨by omega, by decide⟩
      refine wx_imul dX2_mostThatServe_32 ?_
      refine wx_V2 dX2_mostThatServe_33 zPV_X2_clears zLk_X2_49 rfl (Nat.le_of_ble_eq_true rfl) (Nat.le_of_ble_eq_true rfl) (Or.inr rfl) ?_
      rw [hT.1, nI_mul, zi_nI ((c + 1) * tk g)]
      refine s_X2_clears (pt := pt) (by omega) (fun k hk => (hC.2.2 k (by omega)).1) (by omega) (fun b hcl => ?_)
      refine wx_r1 ?_
      refine wx_if_eq (tgt := 64) dX2_mostThatServe_36 (by decide) (fun h36 => ?_) (fun h36 => ?_)
      · have hno : ¬ zCe pt u (((c + 1) * tk g : Nat) : Int) := by
          rcases hcl with ⟨e, _⟩ | ⟨_, e⟩
          · rw [e] at h36; exact absurd h36 (by decide)
          · exact e
        have hne : ¬ f (c + 1) = vv := fun e => hno (hp.mpr e).1
        refine wx_inc (c := (-1)) dX2_mostThatServe_64 rfl (by decide) (Nat.le_of_ble_eq_true rfl) rfl ?_
        refine wx_goto (tgt := 4) dX2_mostThatServe_67 (by decide) ?_
        rw [show nI (c + 1) + (-1) = nI c from by rw [zm_1, zi_nI, zi_add, zi_nI]; exact congrArg zi (by omega)]
        exact ih _ (by omega) (hz.trans (if_neg hne))
      · have hye : zCe pt u (((c + 1) * tk g : Nat) : Int) := by
          rcases hcl with ⟨_, e⟩ | ⟨e, _⟩
          · exact e
          · exact absurd e h36
        refine wx_aload_n (i := 0) dX2_mostThatServe_39 rfl rfl ?_
        refine wx_iload_n (i := 2) dX2_mostThatServe_40 rfl rfl ?_
        refine wx_iload dX2_mostThatServe_41 rfl ?_
        refine wx_iload dX2_mostThatServe_43 rfl ?_
        refine wx_aload_n (i := 0) dX2_mostThatServe_45 rfl rfl ?_
        refine wx_getIG (k := 117) dX2_mostThatServe_46 zF_X2_27 zKo_117 rfl (Nat.le_of_ble_eq_true rfl) ?_
        refine wx_iadd dX2_mostThatServe_49 ?_
        refine wx_V3 dX2_mostThatServe_50 zPV_X2_fewestWithin zLk_X2_37 rfl (Nat.le_of_ble_eq_true rfl) (Nat.le_of_ble_eq_true rfl) (Or.inr rfl) ?_
        rw [hS, zi_add]
        refine s_X2_fewestWithin (f := R (g + 1)) (u := g + 1) (low := low - (((c + 1) * tk g : Nat) : Int)) (high := low - (((c + 1) * tk g : Nat) : Int) + (S : Int)) (by omega) (fun t ht => ⟨(ho (g + 1) (by omega) (by omega)).2 t ht, Nat.le_trans ((ho (g + 1) (by omega) (by omega)).1.1 t) (zG0_le _ _ _)⟩) (by omega) (by omega) ?_
        refine wx_r1 ?_
        refine wx_iload dX2_mostThatServe_53 rfl ?_
        refine wx_iload dX2_mostThatServe_55 rfl ?_
        refine wx_isub dX2_mostThatServe_57 ?_
        refine wx_icmp_ne (tgt := 64) dX2_mostThatServe_58 (by decide) (fun h58 => ?_) (fun h58 => ?_)
        · rw [zi_nI, zi_nI v, zi_nI (c + 1), zi_sub, zi_eq (by omega) (by omega)] at h58
          have hne : ¬ f (c + 1) = vv := fun e => h58 (by have := (hp.mpr e).2; omega)
          refine wx_inc (c := (-1)) dX2_mostThatServe_64 rfl (by decide) (Nat.le_of_ble_eq_true rfl) rfl ?_
          refine wx_goto (tgt := 4) dX2_mostThatServe_67 (by decide) ?_
          rw [show nI (c + 1) + (-1) = nI c from by rw [zm_1, zi_nI, zi_add, zi_nI]; exact congrArg zi (by omega)]
          exact ih _ (by omega) (hz.trans (if_neg hne))
        · rw [zi_nI, zi_nI v, zi_nI (c + 1), zi_sub, zi_eq (by omega) (by omega)] at h58
          have hes : f (c + 1) = vv := hp.mp ⟨hye, by omega⟩
          refine wx_iload dX2_mostThatServe_61 rfl ?_
          refine wx_iret dX2_mostThatServe_63 rfl rfl (Or.inl rfl) ?_
          exact zki hK (congrArg nI (hz.trans (if_pos hes)))
theorem s_X2_mostThatServe {d : Nat} {K : List Value → zS → Prop} {mm : zM} {pt : Nat → Int} {tk : Nat → Nat} {q S : Nat} {R : Nat → Nat → Nat} (hC : zGc pt tk q mm) (ho : zGo pt tk q R mm 0) (hS : mm 117 4 = zi (S : Int)) (hSb : S ≤ 100) {g u v vv : Nat} {f : Nat → Nat} {low : Int} (hg : g < q) (hu : u ≤ g) (hv : v ≤ 180) (hl : -3000 ≤ low ∧ low ≤ 3000) (hP : ∀ w, 1 ≤ w → w ≤ 30 → ((zCe pt u ((w * tk g : Nat) : Int) ∧ ((zLw (R (g + 1)) (low - ((w * tk g : Nat) : Int)) (low - ((w * tk g : Nat) : Int) + (S : Int)) : Nat) : Int) = (v : Int) - (w : Int)) ↔ f w = vv)) (hK : K [.int (nI (zGt f vv 30))] (zG mm))  : wm (d + 2) mX2_mostThatServe [.ref 117, .int (zi ((u : Int) - 1)), .int (zi (((g + 1 : Nat) : Int) - 1)), .int (zi low), .int (nI v)] (zG mm) K := by
  refine wm_of2 (L0 := [some (.ref 117), some (.int (zi ((u : Int) - 1))), some (.int (zi (((g + 1 : Nat) : Int) - 1))), some (.int (zi low)), some (.int (nI v)), none, none]) zCm_X2_mostThatServe (Or.inl rfl) (Nat.le_of_ble_eq_true rfl) rfl ?_
  refine wx_bipush (v := 30) dX2_mostThatServe_0 (by decide) ?_
  refine wx_istore dX2_mostThatServe_2 (Nat.le_of_ble_eq_true rfl) rfl ?_
  exact lp_most hC ho hS hSb hg hu hv hl hP hK 30 _ (Nat.le_refl _) rfl
theorem s_X2_most {d : Nat} {K : List Value → zS → Prop} {mm : zM} {pt : Nat → Int} {tk : Nat → Nat} {q S : Nat} {R : Nat → Nat → Nat} (hC : zGc pt tk q mm) (ho : zGo pt tk q R mm 0) (hS : mm 117 4 = zi (S : Int)) (hSb : S ≤ 100) {g u v vv : Nat} {f : Nat → Nat} {low : Int} (hg : g < q) (hu : u ≤ g) (hv : v ≤ 180) (hl : -3000 ≤ low ∧ low ≤ 3000) (hP : ∀ w, 1 ≤ w → w ≤ 30 → ((zCe pt u ((w * tk g : Nat) : Int) ∧ ((zLw (R (g + 1)) (low - ((w * tk g : Nat) : Int)) (low - ((w * tk g : Nat) : Int) + (S : Int)) : Nat) : Int) = (v : Int) - (w : Int)) ↔ f w = vv)) (hK : K [.int (nI (zGt f vv 30))] (zG mm)) : wm (d + 2) mX2_mostThatServe [.ref 117, .int (zi ((u : Int) - 1)), .int (nI g), .int (zi low), .int (nI v)] (zG mm) K := by
  rw [show nI g = zi (((g + 1 : Nat) : Int) - 1) from by rw [zi_nI]; exact congrArg zi (by omega)]
  exact s_X2_mostThatServe hC ho hS hSb hg hu hv hl hP hK
theorem zAns_eq {D S q : Nat} {tk : Nat → Nat} {pt : Nat → Int} {R : Nat → Nat → Nat} (hq : q ≤ 6) (hR : ∀ u, u ≤ q → zGr pt tk q R u) (ht : D + S ≤ 2100) : zAns (zLw (R 0) (D : Int) ((D : Int) + (S : Int))) = if (zTr D S q tk pt 0).2.2 < 1000000 then nI (zTr D S q tk pt 0).2.2 else -4 := by
  have h := zLink_0 (D := D) (S := S) hq hR ht
  unfold zAns
  by_cases e : (zTr D S q tk pt 0).2.2 < 1000000
  · rw [if_pos e, (h.1 e).1, if_pos (by have := (h.1 e).2; omega)]
  · rw [if_neg e, h.2 e, if_neg (by omega)]
theorem zAns_no {A : Nat} (h : A ≤ 180) : nI A ≠ (-4 : Int32) := fun e => by
  rw [zm_4, zi_nI, zi_eq (by omega) (by omega)] at e
  omega
theorem lp_wo {d : Nat} {K : List Value → zS → Prop} {mm : zM} {pt : Nat → Int} {tk : Nat → Nat} {q S : Nat} {R : Nat → Nat → Nat} (hC : zGc pt tk q mm) (ho : zGo pt tk q R mm 0) (hS : mm 117 4 = zi (S : Int)) (hSb : S ≤ 100) {D j : Nat} (hD : 1 ≤ D ∧ D ≤ 2000) (hj : j ≤ q) (hj1 : 1 ≤ j) (h0 : (zTr D S q tk pt 0).2.2 < 1000000) (hK : K [.int (nI (zTr D S q tk pt j).2.2)] (zG mm))  : ∀ (c i : Nat) (u lf : Nat) (lw : Int) (wv : Int32), i + c = j → (zLa u = (zTr D S q tk pt i).1) → (u ≤ i) → (lf = zMq D (D + S) q tk pt (q - i) (zTr D S q tk pt i).1 (zTr D S q tk pt i).2.1) → (lw = (D : Int) - ((zTr D S q tk pt i).2.1 : Int)) → (1 ≤ i → wv = nI (zTr D S q tk pt i).2.2) → wx (d + 3) mX2_wetsOf 27 [some (.ref 117), some (.int (zi (D : Int))), some (.int (zi ((j : Int) - 1))), some (.int (nI lf)), some (.int (zi ((u : Int) - 1))), some (.int (zi lw)), some (.int wv), some (.int (nI i))] [] (zG mm) K := by
  intro c
  induction c with
  | zero =>
    intro i u lf lw wv hi hu hui hlf hlw hwv
    obtain rfl : i = j := by omega
    have hq6 := hC.1
    refine wx_iload dX2_wetsOf_27 rfl ?_
    refine wx_iload_n (i := 2) dX2_wetsOf_29 rfl rfl ?_
    refine wx_icmp_gt (tgt := 90) dX2_wetsOf_30 (by decide) (fun h30 => ?_) (fun h30 => ?_)
    · skip
      refine wx_iload dX2_wetsOf_90 rfl ?_
      refine wx_iret dX2_wetsOf_92 rfl rfl (Or.inl rfl) ?_
      exact zki hK (hwv hj1).symm
    · exact absurd (show zi ((i : Int) - 1) < nI i by rw [zi_nI, zi_lt (by omega) (by omega)]; omega) h30 --end
  | succ c ih =>
    intro i u lf lw wv hi hu hui hlf hlw hwv
    have hq6 := hC.1
    have hRr : ∀ u, u ≤ q → zGr pt tk q R u := fun u hu => (ho u (by omega) hu).1
    obtain ⟨t1, t2, t3⟩ := zTr_ok h0 hC.1 i (by omega)
    have hex := zTr_ex h0 hC.1 (show i < q by omega)
    have hw := zGt_ok hex
    have hlf6 : lf ≤ 180 := by
      have hk := zLink (D := D) (top := D + S) (R := R) hq6 (by omega) hRr (u := u) (sum := (zTr D S q tk pt i).2.1) (low := (D : Int) - ((zTr D S q tk pt i).2.1 : Int)) (high := ((D + S : Nat) : Int) - ((zTr D S q tk pt i).2.1 : Int)) (by omega) t2 (by omega) (by omega) rfl rfl
      obtain ⟨t, p1, _⟩ := zPa_of (D := D) (top := D + S) (q := q) (tk := tk) (pt := pt) hq6 (c := q - i) (u := u) (sum := (zTr D S q tk pt i).2.1) (by omega) (by omega) t2 (by rw [hu]; exact t3)
      have := zPa_b p1
      rw [hu, ← hlf] at this
      omega
    have hT := (hC.2.2 i (by omega)).2
    obtain ⟨f1, f2, f3, f4⟩ := zMw_fin (by rw [hw.1]; exact t3)
    rw [hw.1] at f4
    have e2 : (zTr D S q tk pt (i + 1)).2.1 = (zTr D S q tk pt i).2.1 + (zGt (zMw (D + S) q tk pt (zMq D (D + S) q tk pt (q - (i + 1))) i (zTr D S q tk pt i).1 (zTr D S q tk pt i).2.1) (zMq D (D + S) q tk pt (q - i) (zTr D S q tk pt i).1 (zTr D S q tk pt i).2.1) 30) * tk i := rfl
    refine wx_iload dX2_wetsOf_27 rfl ?_
    refine wx_iload_n (i := 2) dX2_wetsOf_29 rfl rfl ?_
    refine wx_icmp_gt (tgt := 90) dX2_wetsOf_30 (by decide) (fun h30 => ?_) (fun h30 => ?_)
    · exact absurd h30 (by rw [zi_nI, zi_lt (by omega) (by omega)]; omega) --end
    · skip
      refine wx_iload dX2_wetsOf_33 rfl ?_
      refine wx_aload_n (i := 0) dX2_wetsOf_35 rfl rfl ?_
      refine wx_getIG (k := 117) dX2_wetsOf_36 zF_X2_23 zKo_117 rfl (Nat.le_of_ble_eq_true rfl) ?_
      refine wx_icmp_ge (tgt := 90) dX2_wetsOf_39 (by decide) (fun h39 => ?_) (fun h39 => ?_)
      · rw [hC.2.1, nI_leI (by omega) (by omega)] at h39
        exact absurd h39 (by omega) --end
      · skip
        refine wx_aload_n (i := 0) dX2_wetsOf_42 rfl rfl ?_
        refine wx_iload dX2_wetsOf_43 rfl ?_
        refine wx_iload dX2_wetsOf_45 rfl ?_
        refine wx_iload dX2_wetsOf_47 rfl ?_
        refine wx_iload_n (i := 3) dX2_wetsOf_49 rfl rfl ?_
        refine wx_V4 dX2_wetsOf_50 zPV_X2_mostThatServe zLk_X2_45 rfl (Nat.le_of_ble_eq_true rfl) (Nat.le_of_ble_eq_true rfl) (Or.inr rfl) ?_
        refine s_X2_most (f := zMw (D + S) q tk pt (zMq D (D + S) q tk pt (q - (i + 1))) i (zTr D S q tk pt i).1 (zTr D S q tk pt i).2.1) (vv := zMq D (D + S) q tk pt (q - i) (zTr D S q tk pt i).1 (zTr D S q tk pt i).2.1) hC ho hS hSb (show i < q by omega) hui (by omega) (by omega) (fun w w1 w2 => ?hp) ?hgo
        case hp =>
          rw [← hu]
          refine (zServes (D := D) (top := D + S) hq6 hRr (show i < q by omega) (show u ≤ 6 by omega) (by omega) (by omega) hlf6 w1 (s := (zTr D S q tk pt i).2.1) (by omega) (by omega)).trans ?_
          rw [hlf, hu]
        case hgo =>
          refine wx_r1 ?_
          refine wx_istore dX2_wetsOf_53 (Nat.le_of_ble_eq_true rfl) rfl ?_
          refine wx_iload dX2_wetsOf_55 rfl ?_
          refine wx_if_le (tgt := 84) dX2_wetsOf_57 (by decide) (fun h57 => ?_) (fun h57 => ?_)
          · rw [show (0 : Int32) = nI 0 from rfl, nI_leI (by omega) (by omega)] at h57
            have e1 : (zTr D S q tk pt (i + 1)).1 = (zTr D S q tk pt i).1 := if_neg (by omega)
            have e0 : (zGt (zMw (D + S) q tk pt (zMq D (D + S) q tk pt (q - (i + 1))) i (zTr D S q tk pt i).1 (zTr D S q tk pt i).2.1) (zMq D (D + S) q tk pt (q - i) (zTr D S q tk pt i).1 (zTr D S q tk pt i).2.1) 30) = 0 := by omega
            rw [if_neg (by omega)] at f4
            refine wx_inc (c := 1) dX2_wetsOf_84 rfl (by decide) (Nat.le_of_ble_eq_true rfl) rfl ?_
            refine wx_goto (tgt := 27) dX2_wetsOf_87 (by decide) ?_
            rw [nI_1]
            exact ih (i + 1) u _ _ _ (by omega) (hu.trans e1.symm) (by omega) (by rw [e1, e2]; omega) (by rw [e2, e0, Nat.zero_mul]; omega) (fun _ => rfl)
          · rw [show (0 : Int32) = nI 0 from rfl, nI_leI (by omega) (by omega)] at h57
            have e1 : (zTr D S q tk pt (i + 1)).1 = i := if_pos (by omega)
            rw [if_pos (by omega)] at f4
            refine wx_iload dX2_wetsOf_60 rfl ?_
            refine wx_istore dX2_wetsOf_62 (Nat.le_of_ble_eq_true rfl) rfl ?_
            refine wx_iload dX2_wetsOf_64 rfl ?_
            refine wx_iload dX2_wetsOf_66 rfl ?_
            refine wx_aload_n (i := 0) dX2_wetsOf_68 rfl rfl ?_
            refine wx_getRG (k := 117) (t := 118) dX2_wetsOf_69 zF_X2_9 zKo_117 rfl (Nat.le_of_ble_eq_true rfl) zRf_117_0 ?_
            refine wx_iload dX2_wetsOf_72 rfl ?_
            refine wx_ialdG (k := 118) dX2_wetsOf_74 zK_118 (Nat.le_of_ble_eq_true rfl) rfl ?_ ?_
            · exact ⟨by omega, by decide⟩
            refine wx_imul dX2_wetsOf_75 ?_
            refine wx_isub dX2_wetsOf_76 ?_
            rw [(hC.2.2 i (by omega)).2.1, nI_mul, zi_nI (_ * tk i), zi_sub]
            refine wx_istore dX2_wetsOf_77 (Nat.le_of_ble_eq_true rfl) rfl ?_
            refine wx_iload_n (i := 3) dX2_wetsOf_79 rfl rfl ?_
            refine wx_iload dX2_wetsOf_80 rfl ?_
            refine wx_isub dX2_wetsOf_82 ?_
            rw [nI_sub (show (zGt (zMw (D + S) q tk pt (zMq D (D + S) q tk pt (q - (i + 1))) i (zTr D S q tk pt i).1 (zTr D S q tk pt i).2.1) (zMq D (D + S) q tk pt (q - i) (zTr D S q tk pt i).1 (zTr D S q tk pt i).2.1) 30) ≤ lf by omega)]
            refine wx_istore_n (i := 3) dX2_wetsOf_83 rfl (Nat.le_of_ble_eq_true rfl) rfl ?_
            refine wx_inc (c := 1) dX2_wetsOf_84 rfl (by decide) (Nat.le_of_ble_eq_true rfl) rfl ?_
            refine wx_goto (tgt := 27) dX2_wetsOf_87 (by decide) ?_
            rw [nI_1, show nI i = zi (((i + 1 : Nat) : Int) - 1) from by rw [zi_nI]; exact congrArg zi (by omega)]
            exact ih (i + 1) (i + 1) _ _ _ (by omega) ((zLa_s i).trans e1.symm) (Nat.le_refl _) (by rw [e1, e2]; omega) (by rw [e2]; omega) (fun _ => rfl)
theorem s_X2_wetsOf {d : Nat} {K : List Value → zS → Prop} {mm : zM} {pt : Nat → Int} {tk : Nat → Nat} {q S : Nat} (hI : zGI pt tk q mm) (hS : mm 117 4 = zi (S : Int)) (hSb : S ≤ 100) {D j : Nat} (hD : 1 ≤ D ∧ D ≤ 2000) (hj : j ≤ q) (hj1 : 1 ≤ j) (hK : ∀ (m2 : zM), zFg mm m2 → zGI pt tk q m2 → K [.int (zAw D S q tk pt j)] (zG m2))  : wm (d + 5) mX2_wetsOf [.ref 117, .int (zi (D : Int)), .int (zi ((j : Int) - 1))] (zG mm) K := by
  refine wm_of2 (L0 := [some (.ref 117), some (.int (zi (D : Int))), some (.int (zi ((j : Int) - 1))), none, none, none, none, none]) zCm_X2_wetsOf (Or.inl rfl) (Nat.le_of_ble_eq_true rfl) rfl ?_
  refine wx_aload_n (i := 0) dX2_wetsOf_0 rfl rfl ?_
  refine wx_iload_n (i := 1) dX2_wetsOf_1 rfl rfl ?_
  refine wx_V1 dX2_wetsOf_2 zPV_X2_fewestFor zLk_X2_41 rfl (Nat.le_of_ble_eq_true rfl) (Nat.le_of_ble_eq_true rfl) (Or.inr rfl) ?_
  refine s_X2_fewestFor hI hS (by omega) (by omega) (fun m2 R hf hI2 ho => ?_)
  have hq6 := hI.1.1
  have hRr : ∀ u, u ≤ q → zGr pt tk q R u := fun u hu => (ho u (by omega) hu).1
  rw [zAns_eq hq6 hRr (by omega)]
  have hA := (zLink_0 (D := D) (S := S) hq6 hRr (by omega)).1
  refine wx_r1 ?_
  refine wx_istore_n (i := 3) dX2_wetsOf_5 rfl (Nat.le_of_ble_eq_true rfl) rfl ?_
  refine wx_iload_n (i := 3) dX2_wetsOf_6 rfl rfl ?_
  refine wx_bipush (v := (-4)) dX2_wetsOf_7 (by decide) ?_
  refine wx_icmp_ne (tgt := 15) dX2_wetsOf_9 (by decide) (fun h9 => ?_) (fun h9 => ?_)
  · have h0 : (zTr D S q tk pt 0).2.2 < 1000000 := Decidable.byContradiction fun z => h9 (if_neg z)
    rw [if_pos h0]
    refine wx_iconst (v := (-1)) dX2_wetsOf_15 (by decide) ?_
    refine wx_istore dX2_wetsOf_16 (Nat.le_of_ble_eq_true rfl) rfl ?_
    refine wx_iload_n (i := 1) dX2_wetsOf_18 rfl rfl ?_
    refine wx_istore dX2_wetsOf_19 (Nat.le_of_ble_eq_true rfl) rfl ?_
    refine wx_iconst (v := 0) dX2_wetsOf_21 (by decide) ?_
    refine wx_istore dX2_wetsOf_22 (Nat.le_of_ble_eq_true rfl) rfl ?_
    refine wx_iconst (v := 0) dX2_wetsOf_24 (by decide) ?_
    refine wx_istore dX2_wetsOf_25 (Nat.le_of_ble_eq_true rfl) rfl ?_
    have hS2 : m2 117 4 = zi (S : Int) := by rw [hf 117 4 (by omega) (by omega)]; exact hS
    have e : (zTr D S q tk pt 0).2.2 = zMq D (D + S) q tk pt (q - 0) (zTr D S q tk pt 0).1 (zTr D S q tk pt 0).2.1 := if_neg (by omega)
    exact lp_wo hI2.1 ho hS2 hSb hD hj hj1 h0 (zki (hK m2 hf hI2) (if_pos h0)) j 0 0 _ _ _ (by omega) rfl (Nat.le_refl _) e (by show (D : Int) = (D : Int) - ((0 : Nat) : Int); omega) (fun w => absurd w (by omega))
  · have h0 : ¬ (zTr D S q tk pt 0).2.2 < 1000000 := fun z => by
      rw [if_pos z] at h9
      exact zAns_no (hA z).2 h9
    refine wx_bipush (v := (-4)) dX2_wetsOf_12 (by decide) ?_
    refine wx_iret dX2_wetsOf_14 rfl rfl (Or.inl rfl) ?_
    exact zki (hK m2 hf hI2) (if_neg h0)
