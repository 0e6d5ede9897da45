/-! what the tests of the class tell -/
/-- the best shifts -/
noncomputable def zSh (g : Nat → Nat → Int) (L : Int) (n : Nat) : Nat → Int := fun t => if t = 1 then (zBj g L n).2.2.1 else if t = 2 then (zBj g L n).2.2.2 else 0
/-- the steps -/
noncomputable def zFd (g : Nat → Nat → Int) (L : Int) (n : Nat) (i : Nat) : Int := (zDs g (zSh g L n) L i 3).2.2
theorem zSh_b {g : Nat → Nat → Int} {L : Int} {n : Nat} (hn : n ≤ 15) (t : Nat) : -20 ≤ zSh g L n t ∧ zSh g L n t ≤ 20 := by
  have h := zBj_b (g := g) (L := L) hn
  unfold zSh
  by_cases h1 : t = 1
  · rw [if_pos h1]; exact h.2.2.1
  · rw [if_neg h1]
    by_cases h2 : t = 2
    · rw [if_pos h2]; exact h.2.2.2
    · rw [if_neg h2]; omega
theorem zOk_sh {g : Nat → Nat → Int} {L : Int} {n : Nat} (h : zOg g L n) : zOk g (zSh g L n) L := ⟨h.1, fun t => zSh_b h.2.2.2 t, h.2.1⟩
theorem zFd_b {g : Nat → Nat → Int} {L : Int} {n : Nat} (h : zOg g L n) (i : Nat) : -1100 ≤ zFd g L n i ∧ zFd g L n i ≤ 5000 := (zDs_bd (zOk_sh h) i 3).2.2
/-- the sum of the first steps -/
def zPd (f : Nat → Int) : Nat → Int
  | 0 => 0
  | i + 1 => zPd f i + f i
/-- whether one of the first steps is not told -/
def zNo (f : Nat → Int) : Nat → Bool
  | 0 => false
  | i + 1 => zNo f i || decide (f i = 5000)
def zPv (f : Nat → Int) (z : Nat) : Int := if zNo f z = true then 1000000 else zPd f z
theorem zNo_f {f : Nat → Int} : ∀ {z : Nat}, (∀ j, j < z → ¬ f j = 5000) → zNo f z = false
  | 0, _ => rfl
  | z + 1, h => by
    show (zNo f z || decide (f z = 5000)) = false
    rw [zNo_f (fun j hj => h j (by omega)), decide_eq_false (h z (by omega))]
    rfl
theorem zNo_t {f : Nat → Int} {j : Nat} (h : f j = 5000) : ∀ {z : Nat}, j < z → zNo f z = true
  | 0, hj => absurd hj (Nat.not_lt_zero _)
  | z + 1, hj => by
    show (zNo f z || decide (f z = 5000)) = true
    by_cases e : j = z
    · subst e
      rw [decide_eq_true h, Bool.or_true]
    · rw [zNo_t h (by omega), Bool.true_or]
theorem zPd_b {f : Nat → Int} (h : ∀ j, -1100 ≤ f j ∧ f j ≤ 5000) : ∀ z : Nat, -1100 * (z : Int) ≤ zPd f z ∧ zPd f z ≤ 5000 * (z : Int)
  | 0 => ⟨by show _ ≤ (0 : Int); omega, by show (0 : Int) ≤ _; omega⟩
  | z + 1 => by
    have h1 := zPd_b h z
    have h2 := h z
    show _ ≤ _ + _ ∧ _ + _ ≤ _
    omega
/-- how far the profile is told, and how -/
def zPq (f : Nat → Int) (n : Nat) (mm : zM) (k : Nat) : Prop := (∀ j, j < k → ¬ f j = 5000) ∧ k ≤ n ∧ mm 2 10 = nI (k + 1) ∧ ∀ j, j ≤ k → mm 9 j = zi (zPd f j)
def zKs (g : Nat → Nat → Int) (L : Int) (n : Nat) (mm : zM) : Prop := (mm 7 1 = zi (zBj g L n).2.2.1 ∧ mm 7 2 = zi (zBj g L n).2.2.2) ∧ (∀ i, i < n → mm 8 i = zi (zFd g L n i)) ∧ mm 2 9 = zi (zT3 g 3 - zTs g n - (zBj g L n).1) ∧ ∃ k, zPq (zFd g L n) n mm k ∧ (k = n ∨ zFd g L n k = 5000)
theorem lp_prof {d : Nat} {K : List Value → zS → Prop} {mm : zM} {f : Nat → Int} {n : Nat} (hn : n ≤ 15) (hz : mm 2 8 = nI (n + 1)) (hs : ∀ i, i < n → mm 8 i = zi (f i)) (hf : ∀ j, -1100 ≤ f j ∧ f j ≤ 5000) (hK : ∀ (m2 : zM) (k : Nat), (∀ c j, c ≠ 9 → ¬ (c = 2 ∧ j = 10) → m2 c j = mm c j) → zPq f n m2 k → (k = n ∨ f k = 5000) → K [] (zG m2))  : ∀ (c i : Nat) (m1 : zM), i + c = n → (∀ c j, c ≠ 9 → ¬ (c = 2 ∧ j = 10) → m1 c j = mm c j) → (zPq f n m1 i) → wx (d) mX3_settleProfiles 14 [some (.ref 2), some (.int (nI i))] [] (zG m1) K := by
  intro c
  induction c with
  | zero =>
    intro i m1 hi hg hp
    obtain rfl : i = n := by omega
    refine wx_iload_n (i := 1) dX3_settleProfiles_14 rfl rfl ?_
    refine wx_aload_n (i := 0) dX3_settleProfiles_15 rfl rfl ?_
    refine wx_getIG (k := 2) dX3_settleProfiles_16 zF_X3_43 zKo_2 rfl (Nat.le_of_ble_eq_true rfl) ?_
    refine wx_iconst (v := 1) dX3_settleProfiles_19 (by decide) ?_
    refine wx_isub dX3_settleProfiles_20 ?_
    refine wx_icmp_ge (tgt := 70) dX3_settleProfiles_21 (by decide) (fun h21 => ?_) (fun h21 => ?_)
    · skip
      refine wx_vret dX3_settleProfiles_70 rfl (Or.inl rfl) ?_
      exact hK m1 i hg hp (Or.inl rfl)
    · exact absurd (zones_ge (x := m1 2 8) ((hg 2 8 (by decide) (by decide)).trans hz) hn (Nat.le_refl _) (by omega)) h21 --end
  | succ c ih =>
    intro i m1 hi hg hp
    refine wx_iload_n (i := 1) dX3_settleProfiles_14 rfl rfl ?_
    refine wx_aload_n (i := 0) dX3_settleProfiles_15 rfl rfl ?_
    refine wx_getIG (k := 2) dX3_settleProfiles_16 zF_X3_43 zKo_2 rfl (Nat.le_of_ble_eq_true rfl) ?_
    refine wx_iconst (v := 1) dX3_settleProfiles_19 (by decide) ?_
    refine wx_isub dX3_settleProfiles_20 ?_
    refine wx_icmp_ge (tgt := 70) dX3_settleProfiles_21 (by decide) (fun h21 => ?_) (fun h21 => ?_)
    · exact absurd h21 (zones_lt (x := m1 2 8) ((hg 2 8 (by decide) (by decide)).trans hz) hn (by omega)) --end
    · skip
      refine wx_aload_n (i := 0) dX3_settleProfiles_24 rfl rfl ?_
      refine wx_getRG (k := 2) (t := 8) dX3_settleProfiles_25 zF_X3_20 zKo_2 rfl (Nat.le_of_ble_eq_true rfl) zRf_2_2 ?_
      refine wx_iload_n (i := 1) dX3_settleProfiles_28 rfl rfl ?_
      refine wx_ialdG (k := 8) dX3_settleProfiles_29 zK_8 (Nat.le_of_ble_eq_true rfl) rfl ?_ ?_
      · exact ⟨by omega, by decide⟩
      refine wx_sipush (v := 5000) dX3_settleProfiles_30 (by decide) ?_
      refine wx_icmp_eq (tgt := 70) dX3_settleProfiles_33 (by decide) (fun h33 => ?_) (fun h33 => ?_)
      · rw [hg 8 i (by decide) (by omega), hs i (by omega), zl_5000, zi_eq (by have := hf i; omega) (by omega)] at h33
        refine wx_vret dX3_settleProfiles_70 rfl (Or.inl rfl) ?_
        exact hK m1 i hg hp (Or.inr h33)
      · rw [hg 8 i (by decide) (by omega), hs i (by omega), zl_5000, zi_eq (by have := hf i; omega) (by omega)] at h33
        refine wx_aload_n (i := 0) dX3_settleProfiles_36 rfl rfl ?_
        refine wx_getRG (k := 2) (t := 9) dX3_settleProfiles_37 zF_X3_23 zKo_2 rfl (Nat.le_of_ble_eq_true rfl) zRf_2_3 ?_
        refine wx_iload_n (i := 1) dX3_settleProfiles_40 rfl rfl ?_
        refine wx_iconst (v := 1) dX3_settleProfiles_41 (by decide) ?_
        refine wx_iadd dX3_settleProfiles_42 ?_
        refine wx_aload_n (i := 0) dX3_settleProfiles_43 rfl rfl ?_
        refine wx_getRG (k := 2) (t := 9) dX3_settleProfiles_44 zF_X3_23 zKo_2 rfl (Nat.le_of_ble_eq_true rfl) zRf_2_3 ?_
        refine wx_iload_n (i := 1) dX3_settleProfiles_47 rfl rfl ?_
        refine wx_ialdG (k := 9) dX3_settleProfiles_48 zK_9 (Nat.le_of_ble_eq_true rfl) rfl ?_ ?_
        · exact ⟨by omega, by decide⟩
        refine wx_aload_n (i := 0) dX3_settleProfiles_49 rfl rfl ?_
        refine wx_getRG (k := 2) (t := 8) dX3_settleProfiles_50 zF_X3_20 zKo_2 rfl (Nat.le_of_ble_eq_true rfl) zRf_2_2 ?_
        refine wx_iload_n (i := 1) dX3_settleProfiles_53 rfl rfl ?_
        refine wx_ialdG (k := 8) dX3_settleProfiles_54 zK_8 (Nat.le_of_ble_eq_true rfl) rfl ?_ ?_
        · exact ⟨by omega, by decide⟩
        refine wx_iadd dX3_settleProfiles_55 ?_
        refine wx_iastG (k := 9) (j := i + 1) dX3_settleProfiles_56 zK_9 (Nat.le_of_ble_eq_true rfl) ?_ ?_ ?_
        · (rw [nI_1])
        · exact ⟨by omega, by decide⟩
        refine wx_aload_n (i := 0) dX3_settleProfiles_57 rfl rfl ?_
        refine wx_iload_n (i := 1) dX3_settleProfiles_58 rfl rfl ?_
        refine wx_iconst (v := 2) dX3_settleProfiles_59 (by decide) ?_
        refine wx_iadd dX3_settleProfiles_60 ?_
        refine wx_putIG (k := 2) dX3_settleProfiles_61 zF_X3_62 zKo_2 rfl (Nat.le_of_ble_eq_true rfl) rfl rfl ?_
        refine wx_inc (c := 1) dX3_settleProfiles_64 rfl (by decide) (Nat.le_of_ble_eq_true rfl) rfl ?_
        refine wx_goto (tgt := 14) dX3_settleProfiles_67 (by decide) ?_
        rw [nI_1]
        refine ih (i + 1) _ (by omega) (fun c j w1 w2 => by rw [zU_off w2, zU_off (fun w => w1 w.1)]; exact hg c j w1 w2) ⟨fun j hj => ?_, by omega, ?_, fun j hj => ?_⟩
        · by_cases e : j = i
          · subst e; exact h33
          · exact hp.1 j (by omega)
        · rw [zU_same, zi_nI, zl_2, zi_add, zi_nI]
          exact congrArg zi (by omega)
        · rw [zU_ne (by decide)]
          by_cases e : j = i + 1
          · subst e
            rw [zU_same, hp.2.2.2 i (Nat.le_refl _), hg 8 i (by decide) (by omega), hs i (by omega), zi_add]
            rfl
          · rw [zU_off (fun w => e w.2)]
            exact hp.2.2.2 j (by omega)
theorem s_X3_settleProfiles {d : Nat} {K : List Value → zS → Prop} {mm : zM} {f : Nat → Int} {n : Nat} (hn : n ≤ 15) (hz : mm 2 8 = nI (n + 1)) (hs : ∀ i, i < n → mm 8 i = zi (f i)) (hf : ∀ j, -1100 ≤ f j ∧ f j ≤ 5000) (hK : ∀ (m2 : zM) (k : Nat), (∀ c j, c ≠ 9 → ¬ (c = 2 ∧ j = 10) → m2 c j = mm c j) → zPq f n m2 k → (k = n ∨ f k = 5000) → K [] (zG m2))  : wm (d) mX3_settleProfiles [.ref 2] (zG mm) K := by
  refine wm_of2 (L0 := [some (.ref 2), none]) zCm_X3_settleProfiles (Or.inl rfl) (Nat.le_of_ble_eq_true rfl) rfl ?_
  refine wx_aload_n (i := 0) dX3_settleProfiles_0 rfl rfl ?_
  refine wx_getRG (k := 2) (t := 9) dX3_settleProfiles_1 zF_X3_23 zKo_2 rfl (Nat.le_of_ble_eq_true rfl) zRf_2_3 ?_
  refine wx_iconst (v := 0) dX3_settleProfiles_4 (by decide) ?_
  refine wx_iconst (v := 0) dX3_settleProfiles_5 (by decide) ?_
  refine wx_iastG (k := 9) (j := 0) dX3_settleProfiles_6 zK_9 (Nat.le_of_ble_eq_true rfl) rfl ?_ ?_
  · exact ⟨by omega, by decide⟩
  refine wx_aload_n (i := 0) dX3_settleProfiles_7 rfl rfl ?_
  refine wx_iconst (v := 1) dX3_settleProfiles_8 (by decide) ?_
  refine wx_putIG (k := 2) dX3_settleProfiles_9 zF_X3_62 zKo_2 rfl (Nat.le_of_ble_eq_true rfl) rfl rfl ?_
  refine wx_iconst (v := 0) dX3_settleProfiles_12 (by decide) ?_
  refine wx_istore_n (i := 1) dX3_settleProfiles_13 rfl (Nat.le_of_ble_eq_true rfl) rfl ?_
  refine lp_prof hn hz hs hf hK n 0 _ (by omega) (fun c j w1 w2 => by rw [zU_off w2, zU_off (fun w => w1 w.1)]) ⟨fun j hj => absurd hj (Nat.not_lt_zero j), Nat.zero_le _, by rw [zU_same]; rfl, fun j hj => ?_⟩
  obtain rfl : j = 0 := by omega
  rw [zU_ne (by decide), zU_same]
  rfl
theorem zCR_sh {g : Nat → Nat → Int} {L : Int} {n : Nat} {mm : zM} (hM : zCd g L n mm) (h0 : mm 7 0 = 0) (h1 : mm 7 1 = zi (zBj g L n).2.2.1) (h2 : mm 7 2 = zi (zBj g L n).2.2.2) : zCR g (zSh g L n) L mm := by
  refine ⟨hM.1, fun t ht => ?_, hM.2.1⟩
  rcases (by omega : t = 0 ∨ t = 1 ∨ t = 2) with rfl | rfl | rfl
  · exact h0
  · exact h1
  · exact h2
theorem lp_settle {d : Nat} {K : List Value → zS → Prop} {mm : zM} {g : Nat → Nat → Int} {L : Int} {n : Nat} (hO : zOg g L n) {m0 : zM} (hM : zCd g L n m0) (h70 : m0 7 0 = 0) (h71 : m0 7 1 = zi (zBj g L n).2.2.1) (h72 : m0 7 2 = zi (zBj g L n).2.2.2) (h29 : m0 2 9 = zi (zT3 g 3 - zTs g n - (zBj g L n).1)) (hfr : ∀ c j, ¬ (7 ≤ c ∧ c ≤ 12) → ¬ (c = 2 ∧ 9 ≤ j) → m0 c j = mm c j) (hK : ∀ m2 : zM, (∀ c j, ¬ (7 ≤ c ∧ c ≤ 12) → ¬ (c = 2 ∧ 9 ≤ j) → m2 c j = mm c j) → m2 7 0 = 0 → zKs g L n m2 → K [] (zG m2))  : ∀ (c i : Nat) (m1 : zM), i + c = n → (∀ c, c ≠ 8 → m1 c = m0 c) → (∀ j, j < i → m1 8 j = zi (zFd g L n j)) → wx (d + 4) mX3_settle 18 [some (.ref 2), some (.int (nI i))] [] (zG m1) K := by
  intro c
  induction c with
  | zero =>
    intro i m1 hi hg h8
    obtain rfl : i = n := by omega
    refine wx_iload_n (i := 1) dX3_settle_18 rfl rfl ?_
    refine wx_aload_n (i := 0) dX3_settle_19 rfl rfl ?_
    refine wx_getIG (k := 2) dX3_settle_20 zF_X3_43 zKo_2 rfl (Nat.le_of_ble_eq_true rfl) ?_
    refine wx_iconst (v := 1) dX3_settle_23 (by decide) ?_
    refine wx_isub dX3_settle_24 ?_
    refine wx_icmp_ge (tgt := 45) dX3_settle_25 (by decide) (fun h25 => ?_) (fun h25 => ?_)
    · skip
      refine wx_aload_n (i := 0) dX3_settle_45 rfl rfl ?_
      refine wx_V0 dX3_settle_46 zPV_X3_settleProfiles zLk_X3_76 rfl (Nat.le_of_ble_eq_true rfl) (Nat.le_of_ble_eq_true rfl) (Or.inr rfl) ?_
      refine s_X3_settleProfiles (f := zFd g L i) hO.2.2.2 ((congrFun (hg 2 (by decide)) 8).trans hM.2.2) h8 (zFd_b hO) (fun m4 k w1 w2 w3 => ?_)
      refine wx_r0 ?_
      refine wx_aload_n (i := 0) dX3_settle_49 rfl rfl ?_
      refine wx_iconst (v := 1) dX3_settle_50 (by decide) ?_
      refine wx_putIG (k := 2) dX3_settle_51 zF_X3_52 zKo_2 rfl (Nat.le_of_ble_eq_true rfl) rfl rfl ?_
      refine wx_vret dX3_settle_54 rfl (Or.inl rfl) ?_
      refine hK _ (fun c j u1 u2 => ?_) ?_ ⟨⟨?_, ?_⟩, fun j hj => ?_, ?_, k, ⟨w2.1, w2.2.1, ?_, fun j hj => ?_⟩, w3⟩
      · rw [zU_off (fun w => u2 ⟨w.1, by omega⟩), w1 c j (by omega) (fun w => u2 ⟨w.1, by omega⟩), hg c (by omega)]
        exact hfr c j u1 u2
      · rw [zU_ne (by decide), w1 7 0 (by decide) (by decide), hg 7 (by decide)]; exact h70
      · rw [zU_ne (by decide), w1 7 1 (by decide) (by decide), hg 7 (by decide)]; exact h71
      · rw [zU_ne (by decide), w1 7 2 (by decide) (by decide), hg 7 (by decide)]; exact h72
      · rw [zU_ne (by decide), w1 8 j (by decide) (by omega)]; exact h8 j hj
      · rw [zU_off (by decide), w1 2 9 (by decide) (by decide), hg 2 (by decide)]; exact h29
      · rw [zU_off (by decide)]; exact w2.2.2.1
      · rw [zU_ne (by decide)]; exact w2.2.2.2 j hj
    · exact absurd (zones_ge (x := m1 2 8) ((congrFun (hg 2 (by decide)) 8).trans hM.2.2) hO.2.2.2 (Nat.le_refl _) (by have := hO.2.2; omega)) h25 --end
  | succ c ih =>
    intro i m1 hi hg h8
    refine wx_iload_n (i := 1) dX3_settle_18 rfl rfl ?_
    refine wx_aload_n (i := 0) dX3_settle_19 rfl rfl ?_
    refine wx_getIG (k := 2) dX3_settle_20 zF_X3_43 zKo_2 rfl (Nat.le_of_ble_eq_true rfl) ?_
    refine wx_iconst (v := 1) dX3_settle_23 (by decide) ?_
    refine wx_isub dX3_settle_24 ?_
    refine wx_icmp_ge (tgt := 45) dX3_settle_25 (by decide) (fun h25 => ?_) (fun h25 => ?_)
    · exact absurd h25 (zones_lt (x := m1 2 8) ((congrFun (hg 2 (by decide)) 8).trans hM.2.2) hO.2.2.2 (by omega)) --end
    · skip
      refine wx_aload_n (i := 0) dX3_settle_28 rfl rfl ?_
      refine wx_getRG (k := 2) (t := 8) dX3_settle_29 zF_X3_20 zKo_2 rfl (Nat.le_of_ble_eq_true rfl) zRf_2_2 ?_
      refine wx_iload_n (i := 1) dX3_settle_32 rfl rfl ?_
      refine wx_aload_n (i := 0) dX3_settle_33 rfl rfl ?_
      refine wx_iload_n (i := 1) dX3_settle_34 rfl rfl ?_
      refine wx_V1 dX3_settle_35 zPV_X3_leastStep zLk_X3_72 rfl (Nat.le_of_ble_eq_true rfl) (Nat.le_of_ble_eq_true rfl) (Or.inr rfl) ?_
      have hC : zCR g (zSh g L n) L m1 := zCR_sh (zCd_of hM (fun c u1 u2 => hg c (by omega)) (congrFun (hg 2 (by decide)) 7) (congrFun (hg 2 (by decide)) 8)) (by rw [hg 7 (by decide)]; exact h70) (by rw [hg 7 (by decide)]; exact h71) (by rw [hg 7 (by decide)]; exact h72)
      refine s_X3_leastStep (zOk_sh hO) hC (by have := hO.2.2; omega) ?_
      refine wx_r1 ?_
      refine wx_iastG (k := 8) dX3_settle_38 zK_8 (Nat.le_of_ble_eq_true rfl) rfl ?_ ?_
      · exact ⟨by have := hO.2.2; omega, by decide⟩
      refine wx_inc (c := 1) dX3_settle_39 rfl (by decide) (Nat.le_of_ble_eq_true rfl) rfl ?_
      refine wx_goto (tgt := 18) dX3_settle_42 (by decide) ?_
      rw [nI_1]
      exact ih (i + 1) _ (by omega) (fun c u => (zU_ne u).trans (hg c u)) (zU_lt (f := fun j => zi (zFd g L n j)) h8 rfl)
theorem s_X3_settle {d : Nat} {K : List Value → zS → Prop} {mm : zM} {g : Nat → Nat → Int} {L : Int} {n : Nat} (hO : zOg g L n) (hM : zCd g L n mm) (h70 : mm 7 0 = 0) (hc : mm 2 11 = 0 ∨ zKs g L n mm) (hK : ∀ m2 : zM, (∀ c j, ¬ (7 ≤ c ∧ c ≤ 12) → ¬ (c = 2 ∧ 9 ≤ j) → m2 c j = mm c j) → m2 7 0 = 0 → zKs g L n m2 → K [] (zG m2))  : wm (d + 4) mX3_settle [.ref 2] (zG mm) K := by
  refine wm_of2 (L0 := [some (.ref 2), none]) zCm_X3_settle (Or.inl rfl) (Nat.le_of_ble_eq_true rfl) rfl ?_
  refine wx_aload_n (i := 0) dX3_settle_0 rfl rfl ?_
  refine wx_getIG (k := 2) dX3_settle_1 zF_X3_52 zKo_2 rfl (Nat.le_of_ble_eq_true rfl) ?_
  refine wx_if_eq (tgt := 8) dX3_settle_4 (by decide) (fun h4 => ?_) (fun h4 => ?_)
  · skip
    refine wx_aload_n (i := 0) dX3_settle_8 rfl rfl ?_
    refine wx_V0 dX3_settle_9 zPV_X3_settleAgreements zLk_X3_66 rfl (Nat.le_of_ble_eq_true rfl) (Nat.le_of_ble_eq_true rfl) (Or.inr rfl) ?_
    refine s_X3_settleAgreements hO hM (fun m1 hf h1 h2 h3 => ?_)
    have hM1 : zCd g L n m1 := zCd_of hM (fun c u1 u2 => hf c (by omega) (by omega) (by omega)) (congrFun (hf 2 (by decide) (by decide) (by decide)) 7) (congrFun (hf 2 (by decide) (by decide) (by decide)) 8)
    refine wx_r0 ?_
    refine wx_aload_n (i := 0) dX3_settle_12 rfl rfl ?_
    refine wx_V0 dX3_settle_13 zPV_X3_settleShifts zLk_X3_69 rfl (Nat.le_of_ble_eq_true rfl) (Nat.le_of_ble_eq_true rfl) (Or.inr rfl) ?_
    refine s_X3_settleShifts hO hM1 h1 h2 h3 (fun m2 hf2 a0 a1 a2 a9 => ?_)
    refine wx_r0 ?_
    refine wx_iconst (v := 0) dX3_settle_16 (by decide) ?_
    refine wx_istore_n (i := 1) dX3_settle_17 rfl (Nat.le_of_ble_eq_true rfl) rfl ?_
    have hM2 : zCd g L n m2 := ⟨fun t i u1 u2 => by rw [hf2 _ _ (by omega) (by omega)]; exact hM1.1 t i u1 u2, by rw [hf2 2 7 (by decide) (by decide)]; exact hM1.2.1, by rw [hf2 2 8 (by decide) (by decide)]; exact hM1.2.2⟩
    exact lp_settle hO (m0 := m2) hM2 (by rw [a0, hf 7 (by decide) (by decide) (by decide)]; exact h70) a1 a2 a9 (fun c j u1 u2 => by rw [hf2 c j (by omega) (by omega), hf c (by omega) (by omega) (by omega)]) hK n 0 m2 (by omega) (fun _ _ => rfl) (fun j hj => absurd hj (Nat.not_lt_zero j))
  · skip
    refine wx_vret dX3_settle_7 rfl (Or.inl rfl) ?_
    exact hK mm (fun _ _ _ _ => rfl) h70 (hc.resolve_left h4)
