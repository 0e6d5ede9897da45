/-! the planner of the class: begin; the way of the minutes -/
theorem zFl_off {mm : zM} {k i a : Nat} {v : Int32} (h : a ≠ k) : zFl mm k i v a = mm a := if_neg h
/-- the first of c numbers from m on where f is at most v; else the one behind them -/
def zPls (f : Nat → Nat) (v : Nat) : Nat → Nat → Nat
  | 0, m => m
  | c + 1, m => if f m ≤ v then m else zPls f v c (m + 1)
theorem zPls_ok (f : Nat → Nat) (v : Nat) : ∀ c m, m ≤ zPls f v c m ∧ zPls f v c m ≤ m + c ∧ (∀ k, m ≤ k → k < zPls f v c m → v < f k) ∧ (zPls f v c m < m + c → f (zPls f v c m) ≤ v)
  | 0, m => ⟨Nat.le_refl _, Nat.le_refl _, fun k a b => absurd (show k < m from b) (by omega), fun w => absurd (show m < m + 0 from w) (by omega)⟩
  | c + 1, m => by
    show m ≤ (if f m ≤ v then m else zPls f v c (m + 1)) ∧ (if f m ≤ v then m else zPls f v c (m + 1)) ≤ m + (c + 1) ∧ (∀ k, m ≤ k → k < (if f m ≤ v then m else zPls f v c (m + 1)) → v < f k) ∧ ((if f m ≤ v then m else zPls f v c (m + 1)) < m + (c + 1) → f (if f m ≤ v then m else zPls f v c (m + 1)) ≤ v)
    by_cases q : f m ≤ v
    · rw [if_pos q]
      exact ⟨Nat.le_refl _, by omega, fun k a b => by omega, fun _ => q⟩
    · rw [if_neg q]
      obtain ⟨h1, h2, h3, h4⟩ := zPls_ok f v c (m + 1)
      refine ⟨by omega, by omega, fun k a b => ?_, fun w => h4 (by omega)⟩
      by_cases e : k = m
      · subst e; omega
      · exact h3 k (by omega) b
/-- the minutes chosen at z -/
noncomputable def zSel (n : Nat) (h p : Nat → Int32) (r : Int32) (z s : Nat) : Nat := zPls (zCw n h p r z (zCo n h p r (n + 1 - z)) s) (zCo n h p r (n + 2 - z) s) 5 0
theorem zSel_le (n : Nat) (h p : Nat → Int32) (r : Int32) (z s : Nat) : zSel n h p r z s ≤ 5 := by
  have := (zPls_ok (zCw n h p r z (zCo n h p r (n + 1 - z)) s) (zCo n h p r (n + 2 - z) s) 5 0).2.1
  unfold zSel; omega
/-- the state ahead of z -/
noncomputable def zPst (n : Nat) (h p : Nat → Int32) (r : Int32) : Nat → Nat
  | 0 => 0
  | z + 1 => zNx (zPst n h p r z) (zSel n h p r z (zPst n h p r z))
noncomputable def zPmi (n : Nat) (h p : Nat → Int32) (r : Int32) (z : Nat) : Nat := zSel n h p r z (zPst n h p r z)
theorem zPst_lt (n : Nat) (h p : Nat → Int32) (r : Int32) : ∀ z, zPst n h p r z < 1296
  | 0 => by show 0 < 1296; omega
  | z + 1 => zNx_lt _ _
theorem zSel_ok {n : Nat} {h p : Nat → Int32} {r : Int32} {z s : Nat} (hz : z < n) (hc : zCo n h p r (n + 2 - z) s < 1000) : zCw n h p r z (zCo n h p r (n + 1 - z)) s (zSel n h p r z s) = zCo n h p r (n + 2 - z) s ∧ (∀ k, k < zSel n h p r z s → zCo n h p r (n + 2 - z) s < zCw n h p r z (zCo n h p r (n + 1 - z)) s k) ∧ zRt h p r z s (zSel n h p r z s) ∧ zCo n h p r (n + 1 - z) (zNx s (zSel n h p r z s)) < 1000 := by
  obtain ⟨h1, h2, h3, h4⟩ := zPls_ok (zCw n h p r z (zCo n h p r (n + 1 - z)) s) (zCo n h p r (n + 2 - z) s) 5 0
  have he : zCo n h p r (n + 2 - z) s = zLm 17000 (zCw n h p r z (zCo n h p r (n + 1 - z)) s) 6 := by
    rw [show n + 2 - z = (n + 1 - z) + 1 by omega, zCo_s (z := z) (by omega)]
    rw [show zMo n z + 1 = 6 from by unfold zMo; rw [if_pos hz]]
  have hW : zCw n h p r z (zCo n h p r (n + 1 - z)) s (zSel n h p r z s) = zCo n h p r (n + 2 - z) s := by
    have hlb := fun j (hj : j < 6) => zLm_lb (B := 17000) (f := zCw n h p r z (zCo n h p r (n + 1 - z)) s) hj
    rw [← he] at hlb
    by_cases q : zSel n h p r z s < 5
    · have h4' := h4 (show zSel n h p r z s < 0 + 5 by omega)
      have := hlb (zSel n h p r z s) (by omega)
      exact Nat.le_antisymm h4' this
    · have q5 : zSel n h p r z s = 5 := by have := zSel_le n h p r z s; omega
      rw [q5]
      rcases zLm_at 17000 (zCw n h p r z (zCo n h p r (n + 1 - z)) s) 6 with e | ⟨j, j1, j2⟩
      · rw [← he] at e; omega
      · rw [← he] at j2
        by_cases j5 : j = 5
        · subst j5; exact j2.symm
        · have := h3 j (by omega) (show j < zSel n h p r z s by omega)
          omega
  have hr : zRt h p r z s (zSel n h p r z s) := Classical.byContradiction fun q => by
    rw [zCw_n q] at hW
    omega
  refine ⟨hW, fun k hk => h3 k (by omega) hk, hr, ?_⟩
  rw [zCw_y hr] at hW
  omega
theorem zPst_ok {n : Nat} {h p : Nat → Int32} {r : Int32} (hc : zCo n h p r (n + 2) 0 < 1000) : ∀ z, z ≤ n → zCo n h p r (n + 2 - z) (zPst n h p r z) < 1000
  | 0, _ => hc
  | z + 1, hz => by
    have := (zSel_ok (show z < n by omega) (zPst_ok hc z (by omega))).2.2.2
    rw [show n + 2 - (z + 1) = n + 1 - z by omega]
    exact this
theorem lp_pb2 {d : Nat} {K : List Value → zS → Prop} {mm : zM} {n t : Nat} (hn : 4 ≤ n ∧ n ≤ 16) (ht : t < 3) (hzn : mm 17 7 = nI n) (hK : ∀ m2 : zM, (∀ c, c ≠ 88 → c ≠ 89 → c ≠ 96 → c ≠ 97 → m2 c = mm c) → zMz n (mm 18) (mm (20 + 1 + t)) (mm 17 9) m2 → K [] (zG m2))  : ∀ (c i : Nat) (m1 : zM), i + c = 5 → (∀ c, c ≠ 88 → c ≠ 89 → c ≠ 96 → c ≠ 97 → m1 c = mm c) → (m1 88 8 = nI n) → (m1 88 7 = mm 17 9) → (∀ z, z < n → m1 96 z = mm 18 z) → (∀ k, k < i → m1 97 k = mm (20 + 1 + t) k) → wx (d + 2) mX4_begin 55 [some (.ref 88), some (.int (nI t)), some (.int (zi ((i : Int) - 2)))] [] (zG m1) K := by
  intro c
  induction c with
  | zero =>
    intro i m1 hi hf h8 h7 hh hp
    obtain rfl : i = 5 := by omega
    refine wx_iload_n (i := 2) dX4_begin_55 rfl rfl ?_
    refine wx_iconst (v := 2) dX4_begin_56 (by decide) ?_
    refine wx_icmp_gt (tgt := 83) dX4_begin_57 (by decide) (fun h57 => ?_) (fun h57 => ?_)
    · skip
      refine wx_aload_n (i := 0) dX4_begin_83 rfl rfl ?_
      refine wx_getRG (k := 88) (t := 89) dX4_begin_84 zF_X4_11 zKo_88 rfl (Nat.le_of_ble_eq_true rfl) zRf_88_1 ?_
      refine wx_iconst (v := (-1)) dX4_begin_87 (by decide) ?_
      refine wx_S2 dX4_begin_88 zPS_J7_fill_53178 zLk_X4_36 (Nat.le_of_ble_eq_true rfl) (Or.inr rfl) ?_
      refine s_J7_fillG (n := 23328) zK_89 (by omega) (by decide) ?_
      refine wx_r0 ?_
      refine wx_vret dX4_begin_91 rfl (Or.inl rfl) ?_
      have hu : ∀ j, j < 23328 → zFl m1 89 23328 (-1) 89 j = -1 := fun j hj => by
        unfold zFl va_up
        rw [if_pos rfl]
        exact if_pos hj
      refine hK _ (fun c u1 u2 u3 u4 => (if_neg u2).trans (hf c u1 u2 u3 u4)) ⟨⟨hn.1, hn.2, by rw [zFl_off (by decide)]; exact h8, by rw [zFl_off (by decide)]; exact h7, fun z hz => by rw [zFl_off (by decide)]; exact (hh z hz), fun k hk => by rw [zFl_off (by decide)]; exact (hp k hk)⟩, fun z s a b k => ?_, fun z s m a b k => ?_⟩
      · exact absurd (hu (z * 1296 + s) (by omega)) k
      · exact absurd (hu (z * 1296 + s) (by omega)) k
    · exact absurd (show zi 2 < zi (((5 : Nat) : Int) - 2) by rw [zi_lt (by omega) (by omega)]; omega) h57 --end
  | succ c ih =>
    intro i m1 hi hf h8 h7 hh hp
    refine wx_iload_n (i := 2) dX4_begin_55 rfl rfl ?_
    refine wx_iconst (v := 2) dX4_begin_56 (by decide) ?_
    refine wx_icmp_gt (tgt := 83) dX4_begin_57 (by decide) (fun h57 => ?_) (fun h57 => ?_)
    · exact absurd (show zi 2 < zi ((i : Int) - 2) from h57) (by rw [zi_lt (by omega) (by omega)]; omega) --end
    · skip
      refine wx_aload_n (i := 0) dX4_begin_60 rfl rfl ?_
      refine wx_getRG (k := 88) (t := 97) dX4_begin_61 zF_X4_29 zKo_88 rfl (Nat.le_of_ble_eq_true rfl) zRf_88_6 ?_
      refine wx_iload_n (i := 2) dX4_begin_64 rfl rfl ?_
      refine wx_iconst (v := 2) dX4_begin_65 (by decide) ?_
      refine wx_iadd dX4_begin_66 ?_
      refine wx_aload_n (i := 0) dX4_begin_67 rfl rfl ?_
      refine wx_getRG (k := 88) (t := 17) dX4_begin_68 zF_X4_32 zKo_88 rfl (Nat.le_of_ble_eq_true rfl) zRf_88_0 ?_
      refine wx_iload_n (i := 1) dX4_begin_71 rfl rfl ?_
      refine wx_iload_n (i := 2) dX4_begin_72 rfl rfl ?_
      refine wx_V2 dX4_begin_73 zPV_X0_pullOf zLk_X4_84 rfl (Nat.le_of_ble_eq_true rfl) (Nat.le_of_ble_eq_true rfl) (Or.inr rfl) ?_
      refine s_X0_pullOf ht (by omega) ?_
      refine wx_r1 ?_
      refine wx_iastG (k := 97) (j := i) dX4_begin_76 zK_97 (Nat.le_of_ble_eq_true rfl) ?_ ?_ ?_
      · (rw [zl_2, zi_add, zi_nI]; exact congrArg zi (by omega))
      · exact ⟨by omega, by decide⟩
      refine wx_inc (c := 1) dX4_begin_77 rfl (by decide) (Nat.le_of_ble_eq_true rfl) rfl ?_
      refine wx_goto (tgt := 55) dX4_begin_80 (by decide) ?_
      rw [show zi ((i : Int) - 2) + 1 = zi (((i + 1 : Nat) : Int) - 2) from by rw [zl_1, zi_add]; exact congrArg zi (by omega)]
      refine ih (i + 1) _ (by omega) (fun c u1 u2 u3 u4 => (zU_ne u4).trans (hf c u1 u2 u3 u4)) (by rw [zU_ne (by decide)]; exact h8) (by rw [zU_ne (by decide)]; exact h7) (fun z hz => by rw [zU_ne (by decide)]; exact hh z hz) (zU_lt hp ?_)
      unfold zPu
      rw [if_pos (by omega), hf _ (by omega) (by omega) (by omega) (by omega)]
      exact congrArg _ (by omega)
theorem lp_pb1 {d : Nat} {K : List Value → zS → Prop} {mm : zM} {n t : Nat} (hn : 4 ≤ n ∧ n ≤ 16) (ht : t < 3) (hzn : mm 17 7 = nI n) (hK : ∀ m2 : zM, (∀ c, c ≠ 88 → c ≠ 89 → c ≠ 96 → c ≠ 97 → m2 c = mm c) → zMz n (mm 18) (mm (20 + 1 + t)) (mm 17 9) m2 → K [] (zG m2))  : ∀ (c i : Nat) (m1 : zM), i + c = n → (∀ c, c ≠ 88 → c ≠ 89 → c ≠ 96 → c ≠ 97 → m1 c = mm c) → (m1 88 8 = nI n) → (m1 88 7 = mm 17 9) → (∀ z, z < i → m1 96 z = mm 18 z) → wx (d + 2) mX4_begin 24 [some (.ref 88), some (.int (nI t)), some (.int (nI i))] [] (zG m1) K := by
  intro c
  induction c with
  | zero =>
    intro i m1 hi hf h8 h7 hh
    obtain rfl : i = n := by omega
    refine wx_iload_n (i := 2) dX4_begin_24 rfl rfl ?_
    refine wx_aload_n (i := 0) dX4_begin_25 rfl rfl ?_
    refine wx_getIG (k := 88) dX4_begin_26 zF_X4_46 zKo_88 rfl (Nat.le_of_ble_eq_true rfl) ?_
    refine wx_icmp_ge (tgt := 52) dX4_begin_29 (by decide) (fun h29 => ?_) (fun h29 => ?_)
    · skip
      refine wx_bipush (v := (-2)) dX4_begin_52 (by decide) ?_
      refine wx_istore_n (i := 2) dX4_begin_54 rfl (Nat.le_of_ble_eq_true rfl) rfl ?_
      exact lp_pb2 hn ht hzn hK 5 0 m1 (by omega) hf h8 h7 hh (fun k w => absurd w (Nat.not_lt_zero k))
    · exact absurd (show m1 88 8 ≤ nI i by rw [h8]; exact nI_le (Nat.le_refl _) (by omega)) h29 --end
  | succ c ih =>
    intro i m1 hi hf h8 h7 hh
    refine wx_iload_n (i := 2) dX4_begin_24 rfl rfl ?_
    refine wx_aload_n (i := 0) dX4_begin_25 rfl rfl ?_
    refine wx_getIG (k := 88) dX4_begin_26 zF_X4_46 zKo_88 rfl (Nat.le_of_ble_eq_true rfl) ?_
    refine wx_icmp_ge (tgt := 52) dX4_begin_29 (by decide) (fun h29 => ?_) (fun h29 => ?_)
    · exact absurd (show m1 88 8 ≤ nI i from h29) (by rw [h8]; exact nI_ge (by omega) (by omega)) --end
    · skip
      refine wx_aload_n (i := 0) dX4_begin_32 rfl rfl ?_
      refine wx_getRG (k := 88) (t := 96) dX4_begin_33 zF_X4_26 zKo_88 rfl (Nat.le_of_ble_eq_true rfl) zRf_88_5 ?_
      refine wx_iload_n (i := 2) dX4_begin_36 rfl rfl ?_
      refine wx_aload_n (i := 0) dX4_begin_37 rfl rfl ?_
      refine wx_getRG (k := 88) (t := 17) dX4_begin_38 zF_X4_32 zKo_88 rfl (Nat.le_of_ble_eq_true rfl) zRf_88_0 ?_
      refine wx_iload_n (i := 2) dX4_begin_41 rfl rfl ?_
      refine wx_V1 dX4_begin_42 zPV_X0_heightOf zLk_X4_80 rfl (Nat.le_of_ble_eq_true rfl) (Nat.le_of_ble_eq_true rfl) (Or.inr rfl) ?_
      refine s_X0_heightOf (show i < 16 by omega) ?_
      refine wx_r1 ?_
      refine wx_iastG (k := 96) dX4_begin_45 zK_96 (Nat.le_of_ble_eq_true rfl) rfl ?_ ?_
      · exact ⟨by omega, by decide⟩
      refine wx_inc (c := 1) dX4_begin_46 rfl (by decide) (Nat.le_of_ble_eq_true rfl) rfl ?_
      refine wx_goto (tgt := 24) dX4_begin_49 (by decide) ?_
      rw [nI_1]
      exact ih (i + 1) _ (by omega) (fun c u1 u2 u3 u4 => (zU_ne u3).trans (hf c u1 u2 u3 u4)) (by rw [zU_ne (by decide)]; exact h8) (by rw [zU_ne (by decide)]; exact h7) (zU_lt hh (by rw [hf 18 (by decide) (by decide) (by decide) (by decide)]))
theorem s_X4_begin {d : Nat} {K : List Value → zS → Prop} {mm : zM} {n t : Nat} (hn : 4 ≤ n ∧ n ≤ 16) (ht : t < 3) (hzn : mm 17 7 = nI n) (hK : ∀ m2 : zM, (∀ c, c ≠ 88 → c ≠ 89 → c ≠ 96 → c ≠ 97 → m2 c = mm c) → zMz n (mm 18) (mm (20 + 1 + t)) (mm 17 9) m2 → K [] (zG m2))  : wm (d + 2) mX4_begin [.ref 88, .int (nI t)] (zG mm) K := by
  refine wm_of2 (L0 := [some (.ref 88), some (.int (nI t)), none]) zCm_X4_begin (Or.inl rfl) (Nat.le_of_ble_eq_true rfl) rfl ?_
  refine wx_aload_n (i := 0) dX4_begin_0 rfl rfl ?_
  refine wx_aload_n (i := 0) dX4_begin_1 rfl rfl ?_
  refine wx_getRG (k := 88) (t := 17) dX4_begin_2 zF_X4_32 zKo_88 rfl (Nat.le_of_ble_eq_true rfl) zRf_88_0 ?_
  refine wx_V0 dX4_begin_5 zPV_X0_howManyZones zLk_X4_71 rfl (Nat.le_of_ble_eq_true rfl) (Nat.le_of_ble_eq_true rfl) (Or.inr rfl) ?_
  refine s_X0_howManyZones ?_
  refine wx_r1 ?_
  refine wx_putIG (k := 88) dX4_begin_8 zF_X4_46 zKo_88 rfl (Nat.le_of_ble_eq_true rfl) rfl rfl ?_
  refine wx_aload_n (i := 0) dX4_begin_11 rfl rfl ?_
  refine wx_aload_n (i := 0) dX4_begin_12 rfl rfl ?_
  refine wx_getRG (k := 88) (t := 17) dX4_begin_13 zF_X4_32 zKo_88 rfl (Nat.le_of_ble_eq_true rfl) zRf_88_0 ?_
  refine wx_V0 dX4_begin_16 zPV_X0_restOf zLk_X4_74 rfl (Nat.le_of_ble_eq_true rfl) (Nat.le_of_ble_eq_true rfl) (Or.inr rfl) ?_
  refine s_X0_restOf ?_
  refine wx_r1 ?_
  refine wx_putIG (k := 88) dX4_begin_19 zF_X4_77 zKo_88 rfl (Nat.le_of_ble_eq_true rfl) rfl rfl ?_
  refine wx_iconst (v := 0) dX4_begin_22 (by decide) ?_
  refine wx_istore_n (i := 2) dX4_begin_23 rfl (Nat.le_of_ble_eq_true rfl) rfl ?_
  exact lp_pb1 hn ht hzn hK n 0 _ (by omega) (fun c u1 u2 u3 u4 => (zU_ne u1).trans (zU_ne u1)) (by rw [zU_off (by decide), zU_same]; exact hzn) (by rw [zU_same, zU_ne (by decide)]) (fun z w => absurd w (Nat.not_lt_zero z))
