/-! the grits of the reference: wetsBy, done -/
theorem lp_wl {d : Nat} {K : List Value → zS → Prop} {mm : zM} {pt : Nat → Int} {tk : Nat → Nat} {q top D : Nat} (hC : zMg pt tk q mm) (htop : top ≤ 2100) (hD : D ≤ 2000) {g : Nat} (hg : g ≤ q) (hK : ∀ (m2 : zM) (y4 y5 y6 y7 y8 : Option Value), (∀ c, c ≠ 153 → m2 c = mm c) → zTc D top q tk pt m2 g → wx (d + 2) mX9_wetsBy 154 [some (.ref 128), some (.int (nI D)), some (.int (nI top)), some (.int (nI g)), y4, y5, y6, y7, y8] [] (zG m2) K)  : ∀ (c i : Nat) (m1 : zM) (y5 y6 y7 y8 : Option Value), i + c = 7 → (∀ c, c ≠ 153 → m1 c = mm c) → (zTb D top q tk pt m1 g i 0) → wx (d + 2) mX9_wetsBy 19 [some (.ref 128), some (.int (nI D)), some (.int (nI top)), some (.int (nI g)), some (.int (nI i)), y5, y6, y7, y8] [] (zG m1) K := by
  intro c
  induction c with
  | zero =>
    intro i m1 y5 y6 y7 y8 hi hf ht
    obtain rfl : i = 7 := by omega
    refine wx_iload dX9_wetsBy_19 rfl ?_
    refine wx_bipush (v := 7) dX9_wetsBy_21 (by decide) ?_
    refine wx_icmp_ge (tgt := 154) dX9_wetsBy_23 (by decide) (fun h23 => ?_) (fun h23 => ?_)
    · skip
      exact hK m1 _ _ _ _ _ hf (zTb_7 ht)
    · exact absurd (show nI 7 ≤ nI 7 from nI_le (by omega) (by omega)) h23 --end
  | succ c ih =>
    intro i m1 y5 y6 y7 y8 hi hf ht
    refine wx_iload dX9_wetsBy_19 rfl ?_
    refine wx_bipush (v := 7) dX9_wetsBy_21 (by decide) ?_
    refine wx_icmp_ge (tgt := 154) dX9_wetsBy_23 (by decide) (fun h23 => ?_) (fun h23 => ?_)
    · exact absurd (show nI 7 ≤ nI i from h23) (nI_ge (by omega) (by omega)) --end
    · skip
      refine wx_iconst (v := 0) dX9_wetsBy_26 (by decide) ?_
      refine wx_istore dX9_wetsBy_27 (Nat.le_of_ble_eq_true rfl) rfl ?_
      rw [show (0 : Int32) = nI 0 from rfl]
      refine lp_ws hC htop hD (by omega) hg (fun m2 y5 y6 y7 y8 hf2 ht2 => ?_) (top + 1) 0 m1 _ _ _ (by omega) hf ht
      refine wx_inc (c := 1) dX9_wetsBy_148 rfl (by decide) (Nat.le_of_ble_eq_true rfl) rfl ?_
      refine wx_goto (tgt := 19) dX9_wetsBy_151 (by decide) ?_
      rw [nI_1]
      exact ih (i + 1) m2 _ _ _ _ (by omega) hf2 ht2
theorem lp_wg {d : Nat} {K : List Value → zS → Prop} {mm : zM} {pt : Nat → Int} {tk : Nat → Nat} {q top D : Nat} (hC : zMg pt tk q mm) (htop : top ≤ 2100) (hD : D ≤ 2000) (hK : ∀ m2 : zM, (∀ c, c ≠ 153 → m2 c = mm c) → zTc D top q tk pt m2 0 → K [] (zG m2))  : ∀ (c i : Nat) (m1 : zM) (y4 y5 y6 y7 y8 : Option Value), i + c = (q + 1) → (∀ c, c ≠ 153 → m1 c = mm c) → (zTc D top q tk pt m1 c) → wx (d + 2) mX9_wetsBy 12 [some (.ref 128), some (.int (nI D)), some (.int (nI top)), some (.int (zi ((c : Int) - 1))), y4, y5, y6, y7, y8] [] (zG m1) K := by
  intro c
  induction c with
  | zero =>
    intro i m1 y4 y5 y6 y7 y8 hi hf ht
    obtain rfl : i = (q + 1) := by omega
    refine wx_iload_n (i := 3) dX9_wetsBy_12 rfl rfl ?_
    refine wx_if_lt (tgt := 160) dX9_wetsBy_13 (by decide) (fun h13 => ?_) (fun h13 => ?_)
    · skip
      refine wx_vret dX9_wetsBy_160 rfl (Or.inl rfl) ?_
      exact hK m1 hf ht
    · exact absurd (show zi (((0 : Nat) : Int) - 1) < 0 by rw [zl_0, zi_lt (by omega) (by omega)]; omega) h13 --end
  | succ c ih =>
    intro i m1 y4 y5 y6 y7 y8 hi hf ht
    have hq6 := hC.1
    rw [show (((c + 1 : Nat) : Int) - 1) = (c : Int) by omega]
    refine wx_iload_n (i := 3) dX9_wetsBy_12 rfl rfl ?_
    refine wx_if_lt (tgt := 160) dX9_wetsBy_13 (by decide) (fun h13 => ?_) (fun h13 => ?_)
    · exact absurd h13 (by rw [zl_0, zi_lt (by omega) (by omega)]; omega) --end
    · skip
      refine wx_iconst (v := 0) dX9_wetsBy_16 (by decide) ?_
      refine wx_istore dX9_wetsBy_17 (Nat.le_of_ble_eq_true rfl) rfl ?_
      rw [show (0 : Int32) = nI 0 from rfl, show zi (c : Int) = nI c from (zi_nI c).symm]
      refine lp_wl hC htop hD (show c ≤ q by omega) (fun m2 y4 y5 y6 y7 y8 hf2 ht2 => ?_) 7 0 m1 _ _ _ _ (by omega) hf (zTb_0 ht)
      refine wx_inc (c := (-1)) dX9_wetsBy_154 rfl (by decide) (Nat.le_of_ble_eq_true rfl) rfl ?_
      refine wx_goto (tgt := 12) dX9_wetsBy_157 (by decide) ?_
      rw [show nI c + (-1) = zi ((c : Int) - 1) from by rw [zm_1, zi_nI, zi_add]; rfl]
      exact ih (i + 1) m2 _ _ _ _ _ (by omega) hf2 ht2
theorem s_X9_wetsBy {d : Nat} {K : List Value → zS → Prop} {mm : zM} {pt : Nat → Int} {tk : Nat → Nat} {q D S : Nat} (hC : zMg pt tk q mm) (hS : mm 128 24 = nI S) (hSb : S ≤ 100) (hD : D ≤ 2000) (hK : ∀ m2 : zM, (∀ c, c ≠ 153 → m2 c = mm c) → zTc D (D + S) q tk pt m2 0 → K [] (zG m2))  : wm (d + 2) mX9_wetsBy [.ref 128, .int (nI D)] (zG mm) K := by
  refine wm_of2 (L0 := [some (.ref 128), some (.int (nI D)), none, none, none, none, none, none, none]) zCm_X9_wetsBy (Or.inl rfl) (Nat.le_of_ble_eq_true rfl) rfl ?_
  refine wx_iload_n (i := 1) dX9_wetsBy_0 rfl rfl ?_
  refine wx_aload_n (i := 0) dX9_wetsBy_1 rfl rfl ?_
  refine wx_getIG (k := 128) dX9_wetsBy_2 zF_X9_216 zKo_128 rfl (Nat.le_of_ble_eq_true rfl) ?_
  refine wx_iadd dX9_wetsBy_5 ?_
  refine wx_istore_n (i := 2) dX9_wetsBy_6 rfl (Nat.le_of_ble_eq_true rfl) rfl ?_
  refine wx_aload_n (i := 0) dX9_wetsBy_7 rfl rfl ?_
  refine wx_getIG (k := 128) dX9_wetsBy_8 zF_X9_213 zKo_128 rfl (Nat.le_of_ble_eq_true rfl) ?_
  refine wx_istore_n (i := 3) dX9_wetsBy_11 rfl (Nat.le_of_ble_eq_true rfl) rfl ?_
  rw [hS, nI_add, hC.2.1, show nI q = zi (((q + 1 : Nat) : Int) - 1) from by rw [zi_nI]; exact congrArg zi (by omega)]
  exact lp_wg hC (by omega) hD hK (q + 1) 0 mm _ _ _ _ _ (by omega) (fun _ _ => rfl) (fun g l s a b => absurd a (by omega))
