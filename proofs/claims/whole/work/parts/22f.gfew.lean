/-! the grits of the class: the fewest wets -/
/-- the grits of the class are in order -/
def zGI (pt : Nat → Int) (tk : Nat → Nat) (q : Nat) (mm : zM) : Prop := zGc pt tk q mm ∧ (mm 117 5 = 0 ∨ ∃ R, zGo pt tk q R mm 0)
theorem s_X2_settle {d : Nat} {K : List Value → zS → Prop} {mm : zM} {pt : Nat → Int} {tk : Nat → Nat} {q : Nat} (hI : zGI pt tk q mm) (hK : ∀ (m2 : zM) (R : Nat → Nat → Nat), zFg mm m2 → zGI pt tk q m2 → zGo pt tk q R m2 0 → K [] (zG m2))  : wm (d + 3) mX2_settle [.ref 117] (zG mm) K := by
  refine wm_of2 (L0 := [some (.ref 117), none, none]) zCm_X2_settle (Or.inl rfl) (Nat.le_of_ble_eq_true rfl) rfl ?_
  refine wx_aload_n (i := 0) dX2_settle_0 rfl rfl ?_
  refine wx_getIG (k := 117) dX2_settle_1 zF_X2_30 zKo_117 rfl (Nat.le_of_ble_eq_true rfl) ?_
  refine wx_if_eq (tgt := 8) dX2_settle_4 (by decide) (fun h4 => ?_) (fun h4 => ?_)
  · skip
    refine wx_aload_n (i := 0) dX2_settle_8 rfl rfl ?_
    refine wx_getIG (k := 117) dX2_settle_9 zF_X2_23 zKo_117 rfl (Nat.le_of_ble_eq_true rfl) ?_
    refine wx_iconst (v := 1) dX2_settle_12 (by decide) ?_
    refine wx_isub dX2_settle_13 ?_
    refine wx_istore_n (i := 1) dX2_settle_14 rfl (Nat.le_of_ble_eq_true rfl) rfl ?_
    rw [hI.1.2.1, show nI q - 1 = zi (((q + 1 : Nat) : Int) - 2) from by rw [zl_1, zi_nI, zi_sub]; exact congrArg zi (by omega)]
    exact lp_gs hI.1 (fun m2 R hf ho h5 => hK m2 R hf ⟨zGc_fg hI.1 hf, Or.inr ⟨R, ho⟩⟩ ho) (q + 1) 0 mm (fun _ _ => 0) _ (by omega) (zFg_refl mm) (fun u h1 h2 => absurd h1 (by omega))
  · skip
    refine wx_vret dX2_settle_7 rfl (Or.inl rfl) ?_
    obtain ⟨R, hR⟩ := hI.2.resolve_left h4
    exact hK mm R (zFg_refl mm) hI hR
/-- the fewest wets as the class answers -/
def zAns (v : Nat) : Int32 := if v < 1000 then nI v else -4
theorem s_X2_fewestFor {d : Nat} {K : List Value → zS → Prop} {mm : zM} {pt : Nat → Int} {tk : Nat → Nat} {q : Nat} (hI : zGI pt tk q mm) {S : Int} (hS : mm 117 4 = zi S) (hSb : 0 ≤ S ∧ S ≤ 100) {D : Int} (hD : 1 ≤ D ∧ D ≤ 2000) (hK : ∀ (m2 : zM) (R : Nat → Nat → Nat), zFg mm m2 → zGI pt tk q m2 → zGo pt tk q R m2 0 → K [.int (zAns (zLw (R 0) D (D + S)))] (zG m2))  : wm (d + 4) mX2_fewestFor [.ref 117, .int (zi D)] (zG mm) K := by
  refine wm_of2 (L0 := [some (.ref 117), some (.int (zi D)), none]) zCm_X2_fewestFor (Or.inl rfl) (Nat.le_of_ble_eq_true rfl) rfl ?_
  refine wx_aload_n (i := 0) dX2_fewestFor_0 rfl rfl ?_
  refine wx_V0 dX2_fewestFor_1 zPV_X2_settle zLk_X2_34 rfl (Nat.le_of_ble_eq_true rfl) (Nat.le_of_ble_eq_true rfl) (Or.inr rfl) ?_
  refine s_X2_settle hI (fun m2 R hf hI2 ho => ?_)
  refine wx_r0 ?_
  refine wx_aload_n (i := 0) dX2_fewestFor_4 rfl rfl ?_
  refine wx_iconst (v := (-1)) dX2_fewestFor_5 (by decide) ?_
  refine wx_iload_n (i := 1) dX2_fewestFor_6 rfl rfl ?_
  refine wx_iload_n (i := 1) dX2_fewestFor_7 rfl rfl ?_
  refine wx_aload_n (i := 0) dX2_fewestFor_8 rfl rfl ?_
  refine wx_getIG (k := 117) dX2_fewestFor_9 zF_X2_27 zKo_117 rfl (Nat.le_of_ble_eq_true rfl) ?_
  refine wx_iadd dX2_fewestFor_12 ?_
  refine wx_V3 dX2_fewestFor_13 zPV_X2_fewestWithin zLk_X2_37 rfl (Nat.le_of_ble_eq_true rfl) (Nat.le_of_ble_eq_true rfl) (Or.inr rfl) ?_
  rw [hf 117 4 (by omega) (by omega), hS, zi_add]
  refine s_X2_fewestWithin (f := R 0) (u := 0) (low := D) (high := D + S) (by omega) (fun t ht => ⟨(ho 0 (by omega) (by omega)).2 t ht, Nat.le_trans ((ho 0 (by omega) (by omega)).1.1 t) (zG0_le _ _ _)⟩) (by omega) (by omega) ?_
  refine wx_r1 ?_
  refine wx_istore_n (i := 2) dX2_fewestFor_16 rfl (Nat.le_of_ble_eq_true rfl) rfl ?_
  refine wx_iload_n (i := 2) dX2_fewestFor_17 rfl rfl ?_
  refine wx_sipush (v := 1000) dX2_fewestFor_18 (by decide) ?_
  refine wx_icmp_ge (tgt := 28) dX2_fewestFor_21 (by decide) (fun h21 => ?_) (fun h21 => ?_)
  · have hlt : ¬ zLw (R 0) D (D + S) < 1000 := fun w => absurd (show nI 1000 ≤ nI (zLw (R 0) D (D + S)) from h21) (nI_ge w (by omega))
    refine wx_bipush (v := (-4)) dX2_fewestFor_28 (by decide) ?_
    refine wx_iret dX2_fewestFor_30 rfl rfl (Or.inl rfl) ?_
    first | exact zki (hK m2 R hf hI2 ho) (if_pos hlt) | exact zki (hK m2 R hf hI2 ho) (if_neg hlt)
  · have hlt : zLw (R 0) D (D + S) < 1000 := Nat.not_le.mp (fun w => h21 (show nI 1000 ≤ nI (zLw (R 0) D (D + S)) from nI_le w (by have := zLo_le (R 0) D.toNat (zLc D (D + S)); unfold zLw; omega)))
    refine wx_iload_n (i := 2) dX2_fewestFor_24 rfl rfl ?_
    refine wx_goto (tgt := 30) dX2_fewestFor_25 (by decide) ?_
    refine wx_iret dX2_fewestFor_30 rfl rfl (Or.inl rfl) ?_
    first | exact zki (hK m2 R hf hI2 ho) (if_pos hlt) | exact zki (hK m2 R hf hI2 ho) (if_neg hlt)
