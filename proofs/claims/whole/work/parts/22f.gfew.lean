/-! the grits of the class: the fewest wets -/
/-- the grits of the class are in order -/
def zGI (pt : Nat → Int) (tk : Nat → Nat) (q : Nat) (mm : zM) : Prop := zGc pt tk q mm ∧ (mm 117 5 = 0 ∨ ∃ R, zGo pt tk q R mm 0)
theorem s_X2_settle {d : Nat} {K : List Value → zS → Prop} {mm : zM} {pt : Nat → Int} {tk : Nat → Nat} {q : Nat} (hI : zGI pt tk q mm) (hK : ∀ (m2 : zM) (R : Nat → Nat → Nat), zFg mm m2 → zGI pt tk q m2 → zGo pt tk q R m2 0 → K [] (zG m2))  : wm (d + 3) mX2_settle [.ref 117] (zG mm) K := by
  refine wm_of2 (L0 := [some (.ref 117), none, none]) zCm_X2_settle (Or.inl rfl) (Nat.le_of_ble_eq_true rfl) rfl ?_
  refine wx_aload_n (i := 0) dX2_settle_0 rfl rfl ?_
  refine wx_getIG (k := 117) dX2_settle_1 zF_X2_30 zKo_117 rfl (Nat.le_of_ble_eq_true rfl) ?_
  refine wx_if_eq (tgt := 8) dX2_settle_4 (by decide) (fun h4 => ?_) (fun h4 => ?_)
  · skip
    refine wx_aload_n (i := 0) dX2_settle_8 rfl rfl ?_
    refine wx_getIG (k := 117) dX2_settle_9 zF_X2_23 zKo_117 rfl (Nat.le_of_ble_eq_true rfl) ?_
    refine wx_iconst (v := 1) dX2_settle_12 (by decide) ?_
    refine wx_isub dX2_settle_13 ?_
    refine wx_istore_n (i := 1) dX2_settle_14 rfl (Nat.le_of_ble_eq_true rfl) rfl ?_
    rw [hI.1.2.1, show nI q - 1 = zi (((q + 1 : Nat) : Int) - 2) from by rw [zl_1, zi_nI, zi_sub]; exact congrArg zi (by omega)]
    exact lp_gs hI.1 (fun m2 R hf ho h5 => hK m2 R hf ⟨zGc_fg hI.1 hf, Or.inr ⟨R, ho⟩⟩ ho) (q + 1) 0 mm (fun _ _ => 0) _ (by omega) (zFg_refl mm) (fun u h1 h2 => absurd h1 (by omega))
  · skip
    refine wx_vret dX2_settle_7 rfl (Or.inl rfl) ?_
    obtain ⟨R, hR⟩ := hI.2.resolve_left h4
    exact hK mm R (zFg_refl mm) hI hR
