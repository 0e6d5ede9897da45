/-! the planner: numbers of a plan -/
theorem nI_div {a k : Nat} (h : a ≤ 1000000000) (hk : 0 < k ∧ k < 1000000) : nI a / nI k = nI (a / k) := by
  rw [zi_nI, zi_nI, zi_div (by omega) hk, zi_nI, z_tdiv_pos k (by omega)]
  rfl
theorem nI_rem {a k : Nat} (h : a ≤ 1000000000) (hk : 0 < k ∧ k < 1000000) : nI a - nI a / nI k * nI k = nI (a % k) := by
  rw [nI_div h hk, nI_mul, nI_sub (Nat.div_mul_le_self a k)]
  congr 1
  have := Nat.div_add_mod a k
  rw [Nat.mul_comm] at this
  omega
theorem nI_nle0 {a : Nat} (h : a < 2 ^ 31) : nI a ≤ 0 ↔ a = 0 := by
  rw [show (0 : Int32) = nI 0 from rfl, nI_leI h (by omega)]
  omega
theorem zLm_end {B : Nat} {f : Nat → Nat} {c e : Nat} (h : ∀ j, c ≤ j → j < e → zLm B f c ≤ f j) (hce : c ≤ e) : zLm B f e = zLm B f c := by
  induction e with
  | zero => obtain rfl : c = 0 := by omega
            rfl
  | succ e ih =>
    by_cases q : c = e + 1
    · rw [q]
    · have g := ih (fun j a b => h j a (by omega)) (by omega)
      show (if f e < zLm B f e then f e else zLm B f e) = _
      have := h e (by omega) (by omega)
      rw [if_neg (by omega)]
      exact g
/-- what the four latest choices leave of zone i -/
def zDg (s : Nat) : Nat → Nat
  | 0 => s
  | k + 1 => zDg s k / 6
theorem zDg_le (s : Nat) : ∀ k, zDg s k ≤ s
  | 0 => Nat.le_refl _
  | k + 1 => by
    have := zDg_le s k
    show zDg s k / 6 ≤ s
    omega
def zLl (a : Int32) (p : Nat → Int32) (s : Nat) : Nat → Int32
  | 0 => a
  | k + 1 => zLl a p s k - nI (zDg s k % 6) * p (k + 1)
def zLf (h p : Nat → Int32) (i s : Nat) : Int32 := zLl (h i) p s 4
def zHh (h p : Nat → Int32) (z s m : Nat) : Int32 := zLf h p (z - 2) s - nI m * p 0
/-- zone z - 2 comes right by m minutes at z -/
def zRt (h p : Nat → Int32) (r : Int32) (z s m : Nat) : Prop := z < 2 ∨ (0 ≤ zHh h p z s m ∧ zHh h p z s m ≤ r)
theorem zRt_dec (h p : Nat → Int32) (r : Int32) (z s m : Nat) : Nonempty (Decidable (zRt h p r z s m)) := ⟨Classical.propDecidable _⟩
def zNx (s m : Nat) : Nat := (s * 6 + m) % 1296
theorem zNx_lt (s m : Nat) : zNx s m < 1296 := Nat.mod_lt _ (by omega)
def zMo (n z : Nat) : Nat := if z < n then 5 else 0
theorem zMo_le (n z : Nat) : zMo n z ≤ 5 := by
  unfold zMo
  by_cases h : z < n
  · rw [if_pos h]; omega
  · rw [if_neg h]; omega
/-- the cost with m minutes at z: F the costs from the next place on -/
noncomputable def zCw (n : Nat) (h p : Nat → Int32) (r : Int32) (z : Nat) (F : Nat → Nat) (s m : Nat) : Nat := @ite _ (zRt h p r z s m) (Classical.propDecidable _) (m + F (zNx s m)) ((n + 2 - z) * 1000)
theorem zCw_y {n : Nat} {h p : Nat → Int32} {r : Int32} {z : Nat} {F : Nat → Nat} {s m : Nat} (q : zRt h p r z s m) : zCw n h p r z F s m = m + F (zNx s m) := @if_pos _ (Classical.propDecidable _) q _ _ _
theorem zCw_n {n : Nat} {h p : Nat → Int32} {r : Int32} {z : Nat} {F : Nat → Nat} {s m : Nat} (q : ¬ zRt h p r z s m) : zCw n h p r z F s m = (n + 2 - z) * 1000 := @if_neg _ (Classical.propDecidable _) q _ _ _
/-- the least cost of the last c places -/
noncomputable def zCo (n : Nat) (h p : Nat → Int32) (r : Int32) : Nat → Nat → Nat
  | 0, _ => 0
  | c + 1, s => zLm 17000 (zCw n h p r (n + 1 - c) (zCo n h p r c) s) (zMo n (n + 1 - c) + 1)
theorem zCo_s {n : Nat} {h p : Nat → Int32} {r : Int32} {z c : Nat} (hz : z + c = n + 1) (s : Nat) : zCo n h p r (c + 1) s = zLm 17000 (zCw n h p r z (zCo n h p r c) s) (zMo n z + 1) := by
  show zLm 17000 (zCw n h p r (n + 1 - c) (zCo n h p r c) s) (zMo n (n + 1 - c) + 1) = _
  rw [show n + 1 - c = z by omega]
theorem zCo_le {n : Nat} {h p : Nat → Int32} {r : Int32} : ∀ c s, zCo n h p r c s ≤ 17000
  | 0, _ => Nat.zero_le _
  | c + 1, s => zLm_le _ _ _
theorem zCw_le {n : Nat} {h p : Nat → Int32} {r : Int32} {z c s m : Nat} (hn : n ≤ 16) : zCw n h p r z (zCo n h p r c) s m ≤ 18000 + m := by
  by_cases q : zRt h p r z s m
  · rw [zCw_y q]
    have := zCo_le (n := n) (h := h) (p := p) (r := r) c (zNx s m)
    omega
  · rw [zCw_n q]; omega
theorem zCw_ge {n : Nat} {h p : Nat → Int32} {r : Int32} {z c s m : Nat} (hz : z ≤ n + 1) (hm : m ≤ 5) : m ≤ zCw n h p r z (zCo n h p r c) s m := by
  by_cases q : zRt h p r z s m
  · rw [zCw_y q]; omega
  · rw [zCw_n q]; omega
/-- the planner of the class, at one plan -/
def zPh (n : Nat) (h p : Nat → Int32) (r : Int32) (mm : zM) : Prop := 4 ≤ n ∧ n ≤ 16 ∧ mm 88 8 = nI n ∧ mm 88 7 = r ∧ (∀ z, z < n → mm 96 z = h z) ∧ ∀ k, k < 5 → mm 97 k = p k
def zKw (mm : zM) (z s : Nat) : Prop := mm 89 (z * 1296 + s) ≠ -1
/-- what is known of the costs is right, and what the way needs of it is known -/
def zMz (n : Nat) (h p : Nat → Int32) (r : Int32) (mm : zM) : Prop := zPh n h p r mm ∧ (∀ z s, z < n + 2 → s < 1296 → zKw mm z s → mm 89 (z * 1296 + s) = nI (zCo n h p r (n + 2 - z) s)) ∧ ∀ z s m, z < n + 1 → s < 1296 → zKw mm z s → m ≤ zMo n z → zRt h p r z s m → (∀ k, k < m → m < zCw n h p r z (zCo n h p r (n + 1 - z)) s k) → zKw mm (z + 1) (zNx s m)
def zPf (mm m2 : zM) : Prop := (∀ c, c ≠ 89 → m2 c = mm c) ∧ ∀ j, mm 89 j ≠ -1 → m2 89 j = mm 89 j
theorem zPf_refl (mm : zM) : zPf mm mm := ⟨fun _ _ => rfl, fun _ _ => rfl⟩
theorem zPf_trans {a b c : zM} (h : zPf a b) (g : zPf b c) : zPf a c := ⟨fun k w => (g.1 k w).trans (h.1 k w), fun j w => by
  have e := h.2 j w
  rw [← e] at w
  exact (g.2 j w).trans e⟩
theorem zKw_fp {a b : zM} (h : zPf a b) {z s : Nat} (k : zKw a z s) : zKw b z s := by
  unfold zKw at k ⊢
  rw [h.2 _ k]; exact k
theorem zPh_fp {n : Nat} {h p : Nat → Int32} {r : Int32} {a b : zM} (k : zPh n h p r a) (f : zPf a b) : zPh n h p r b := ⟨k.1, k.2.1, by rw [f.1 88 (by decide)]; exact k.2.2.1, by rw [f.1 88 (by decide)]; exact k.2.2.2.1, fun z hz => by rw [f.1 96 (by decide)]; exact k.2.2.2.2.1 z hz, fun e he => by rw [f.1 97 (by decide)]; exact k.2.2.2.2.2 e he⟩
theorem s_X4_stateBehind {d : Nat} {K : List Value → zS → Prop} {mm : zM} {s m : Nat} (hs : s < 1296) (hm : m ≤ 5) (hK : K [.int (nI (zNx s m))] (zG mm)) : wm (d) mX4_stateBehind [.int (nI s), .int (nI m)] (zG mm) K := by
  refine wm_of2 (L0 := [some (.int (nI s)), some (.int (nI m))]) zCm_X4_stateBehind (Or.inl rfl) (Nat.le_of_ble_eq_true rfl) rfl ?_
  refine wx_iload_n (i := 0) dX4_stateBehind_0 rfl rfl ?_
  refine wx_bipush (v := 6) dX4_stateBehind_1 (by decide) ?_
  refine wx_imul dX4_stateBehind_3 ?_
  refine wx_iload_n (i := 1) dX4_stateBehind_4 rfl rfl ?_
  refine wx_iadd dX4_stateBehind_5 ?_
  rw [show (6 : Int32) = nI 6 from rfl, nI_mul, nI_add]
  refine wx_sipush (v := 1296) dX4_stateBehind_6 (by decide) ?_
  refine wx_irem dX4_stateBehind_9 ?_ ?_
  · decide
  rw [show (1296 : Int32) = nI 1296 from rfl, nI_rem (by omega) (by omega)]
  refine wx_iret dX4_stateBehind_10 rfl rfl (Or.inl rfl) ?_
  exact hK
theorem lp_left {d : Nat} {K : List Value → zS → Prop} {mm : zM} {n : Nat} {h p : Nat → Int32} {r : Int32} (hP : zPh n h p r mm) {z : Int32} {s : Nat} {a : Int32} (hs : s < 1296) (hK : K [.int (zLl a p s 4)] (zG mm)) : ∀ (c i : Nat) , i + c = 4 →  wx (d) mX4_leftAt 19 [some (.ref 88), some (.int z), some (.int (nI s)), some (.int (zLl a p s i)), some (.int (nI (zDg s i))), some (.int (nI (i + 1)))] [] (zG mm) K := by
  intro c
  induction c with
  | zero =>
    intro i  hi 
    obtain rfl : i = 4 := by omega
    refine wx_iload dX4_leftAt_19 rfl ?_
    refine wx_iconst (v := 5) dX4_leftAt_21 (by decide) ?_
    refine wx_icmp_ge (tgt := 54) dX4_leftAt_22 (by decide) (fun h22 => ?_) (fun h22 => ?_)
    · skip
      refine wx_iload_n (i := 3) dX4_leftAt_54 rfl rfl ?_
      refine wx_iret dX4_leftAt_55 rfl rfl (Or.inl rfl) ?_
      exact hK
    · exact absurd (show nI 5 ≤ nI 5 from nI_le (by omega) (by omega)) h22 --end
  | succ c ih =>
    intro i  hi 
    refine wx_iload dX4_leftAt_19 rfl ?_
    refine wx_iconst (v := 5) dX4_leftAt_21 (by decide) ?_
    refine wx_icmp_ge (tgt := 54) dX4_leftAt_22 (by decide) (fun h22 => ?_) (fun h22 => ?_)
    · exact absurd (show nI 5 ≤ nI (i + 1) from h22) (nI_ge (by omega) (by omega)) --end
    · skip
      refine wx_iload_n (i := 3) dX4_leftAt_25 rfl rfl ?_
      refine wx_iload dX4_leftAt_26 rfl ?_
      refine wx_bipush (v := 6) dX4_leftAt_28 (by decide) ?_
      refine wx_irem dX4_leftAt_30 ?_ ?_
      · decide
      rw [show (6 : Int32) = nI 6 from rfl, nI_rem (by have := zDg_le s i; omega) (by omega)]
      refine wx_aload_n (i := 0) dX4_leftAt_31 rfl rfl ?_
      refine wx_getRG (k := 88) (t := 97) dX4_leftAt_32 zF_X4_29 zKo_88 rfl (Nat.le_of_ble_eq_true rfl) zRf_88_6 ?_
      refine wx_iload dX4_leftAt_35 rfl ?_
      refine wx_ialdG (k := 97) (j := i + 1) dX4_leftAt_37 zK_97 (Nat.le_of_ble_eq_true rfl) rfl ?_ ?_
      · exact ⟨by omega, by decide⟩
      refine wx_imul dX4_leftAt_38 ?_
      rw [hP.2.2.2.2.2 (i + 1) (by omega)]
      refine wx_isub dX4_leftAt_39 ?_
      refine wx_istore_n (i := 3) dX4_leftAt_40 rfl (Nat.le_of_ble_eq_true rfl) rfl ?_
      refine wx_iload dX4_leftAt_41 rfl ?_
      refine wx_bipush (v := 6) dX4_leftAt_43 (by decide) ?_
      refine wx_idiv dX4_leftAt_45 ?_ ?_
      · decide
      rw [show (6 : Int32) = nI 6 from rfl, nI_div (by have := zDg_le s i; omega) (by omega)]
      refine wx_istore dX4_leftAt_46 (Nat.le_of_ble_eq_true rfl) rfl ?_
      refine wx_inc (c := 1) dX4_leftAt_48 rfl (by decide) (Nat.le_of_ble_eq_true rfl) rfl ?_
      refine wx_goto (tgt := 19) dX4_leftAt_51 (by decide) ?_
      rw [nI_1]
      exact ih (i + 1) (by omega)
theorem s_X4_leftAt {d : Nat} {K : List Value → zS → Prop} {mm : zM} {n : Nat} {h p : Nat → Int32} {r : Int32} (hP : zPh n h p r mm) {z s : Nat} (hz : z < n + 2) (hs : s < 1296) (hK : K [.int (if z < 2 then 0 else zLf h p (z - 2) s)] (zG mm)) : wm (d) mX4_leftAt [.ref 88, .int (zi ((z : Int) - 2)), .int (nI s)] (zG mm) K := by
  obtain ⟨hn4, hn16, -⟩ := id hP
  refine wm_of2 (L0 := [some (.ref 88), some (.int (zi ((z : Int) - 2))), some (.int (nI s)), none, none, none]) zCm_X4_leftAt (Or.inl rfl) (Nat.le_of_ble_eq_true rfl) rfl ?_
  refine wx_iload_n (i := 1) dX4_leftAt_0 rfl rfl ?_
  refine wx_if_ge (tgt := 6) dX4_leftAt_1 (by decide) (fun h1 => ?_) (fun h1 => ?_)
  · rw [zl_0, zi_le (by omega) (by omega)] at h1
    have h1 : ¬ z < 2 := by omega
    refine wx_aload_n (i := 0) dX4_leftAt_6 rfl rfl ?_
    refine wx_getRG (k := 88) (t := 96) dX4_leftAt_7 zF_X4_26 zKo_88 rfl (Nat.le_of_ble_eq_true rfl) zRf_88_5 ?_
    refine wx_iload_n (i := 1) dX4_leftAt_10 rfl rfl ?_
    refine wx_ialdG (k := 96) (j := z - 2) dX4_leftAt_11 zK_96 (Nat.le_of_ble_eq_true rfl) ?_ ?_ ?_
    · (rw [zi_nI]; exact congrArg zi (by omega))
    · exact ⟨by omega, by decide⟩
    rw [hP.2.2.2.2.1 (z - 2) (by omega)]
    refine wx_istore_n (i := 3) dX4_leftAt_12 rfl (Nat.le_of_ble_eq_true rfl) rfl ?_
    refine wx_iload_n (i := 2) dX4_leftAt_13 rfl rfl ?_
    refine wx_istore dX4_leftAt_14 (Nat.le_of_ble_eq_true rfl) rfl ?_
    refine wx_iconst (v := 1) dX4_leftAt_16 (by decide) ?_
    refine wx_istore dX4_leftAt_17 (Nat.le_of_ble_eq_true rfl) rfl ?_
    rw [if_neg h1] at hK
    exact lp_left hP hs hK 4 0 (by omega)
  · rw [zl_0, zi_le (by omega) (by omega)] at h1
    have h1 : z < 2 := by omega
    refine wx_iconst (v := 0) dX4_leftAt_4 (by decide) ?_
    refine wx_iret dX4_leftAt_5 rfl rfl (Or.inl rfl) ?_
    exact zki hK (if_pos h1)
