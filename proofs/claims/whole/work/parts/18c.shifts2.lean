/-! the best shifts of the class -/
/-- how far two shifts go together -/
def zShz (a b : Int) : Int := (a.natAbs : Int) + (b.natAbs : Int)
abbrev zJs : Type := Option (Int × Int × Int × Int)
def zJu (f : Int → Int → Int) (st : zJs) (a b : Int) : zJs :=
  match st with
  | none => some (f a b, zShz a b, a, b)
  | some p => if p.1 < f a b ∨ (f a b = p.1 ∧ zShz a b < p.2.1) then some (f a b, zShz a b, a, b) else some p
def zJi (f : Int → Int → Int) (a : Int) (st : zJs) : Nat → zJs
  | 0 => st
  | j + 1 => zJu f (zJi f a st j) a ((j : Int) - 20)
def zJo (f : Int → Int → Int) : Nat → zJs
  | 0 => none
  | i + 1 => zJi f ((i : Int) - 20) (zJo f i) 41
def zJb (st : zJs) : Prop := match st with
  | none => True
  | some p => (0 ≤ p.1 ∧ p.1 ≤ 100) ∧ (0 ≤ p.2.1 ∧ p.2.1 ≤ 40) ∧ (-20 ≤ p.2.2.1 ∧ p.2.2.1 ≤ 20) ∧ (-20 ≤ p.2.2.2 ∧ p.2.2.2 ≤ 20)
theorem zJu_b {f : Int → Int → Int} (hf : ∀ a b, 0 ≤ f a b ∧ f a b ≤ 100) {st : zJs} (h : zJb st) {a b : Int} (ha : -20 ≤ a ∧ a ≤ 20) (hb : -20 ≤ b ∧ b ≤ 20) : zJb (zJu f st a b) := by
  have hs : 0 ≤ zShz a b ∧ zShz a b ≤ 40 := by unfold zShz; omega
  cases st with
  | none => exact ⟨hf a b, hs, ha, hb⟩
  | some p =>
    show zJb (if p.1 < f a b ∨ (f a b = p.1 ∧ zShz a b < p.2.1) then some (f a b, zShz a b, a, b) else some p)
    by_cases q : p.1 < f a b ∨ (f a b = p.1 ∧ zShz a b < p.2.1)
    · rw [if_pos q]; exact ⟨hf a b, hs, ha, hb⟩
    · rw [if_neg q]; exact h
theorem zJi_b {f : Int → Int → Int} (hf : ∀ a b, 0 ≤ f a b ∧ f a b ≤ 100) {st : zJs} (h : zJb st) {a : Int} (ha : -20 ≤ a ∧ a ≤ 20) : ∀ j : Nat, j ≤ 41 → zJb (zJi f a st j)
  | 0, _ => h
  | j + 1, hj => zJu_b hf (zJi_b hf h ha j (by omega)) ha ⟨by omega, by omega⟩
theorem zJo_b {f : Int → Int → Int} (hf : ∀ a b, 0 ≤ f a b ∧ f a b ≤ 100) : ∀ i : Nat, i ≤ 41 → zJb (zJo f i)
  | 0, _ => trivial
  | i + 1, hi => zJi_b hf (zJo_b hf i (by omega)) ⟨by omega, by omega⟩ 41 (Nat.le_refl _)
theorem zJu_some (f : Int → Int → Int) (st : zJs) (a b : Int) : ∃ p, zJu f st a b = some p := by
  cases st with
  | none => exact ⟨_, rfl⟩
  | some p =>
    show ∃ q, (if p.1 < f a b ∨ (f a b = p.1 ∧ zShz a b < p.2.1) then some (f a b, zShz a b, a, b) else some p) = some q
    by_cases q : p.1 < f a b ∨ (f a b = p.1 ∧ zShz a b < p.2.1)
    · rw [if_pos q]; exact ⟨_, rfl⟩
    · rw [if_neg q]; exact ⟨_, rfl⟩
/-- what is kept besides, how far the shifts go, and the shifts -/
noncomputable def zBj (g : Nat → Nat → Int) (L : Int) (n : Nat) : Int × Int × Int × Int := (zJo (zKp g L n) 41).getD (0, 0, 0, 0)
theorem zBj_eq (g : Nat → Nat → Int) (L : Int) (n : Nat) : zJo (zKp g L n) 41 = some (zBj g L n) := by
  obtain ⟨p, hp⟩ := zJu_some (zKp g L n) (zJi (zKp g L n) 20 (zJo (zKp g L n) 40) 40) 20 20
  have h : zJo (zKp g L n) 41 = some p := hp
  unfold zBj
  rw [h]
  rfl
theorem zBj_b {g : Nat → Nat → Int} {L : Int} {n : Nat} (hn : n ≤ 15) : (0 ≤ (zBj g L n).1 ∧ (zBj g L n).1 ≤ 100) ∧ (0 ≤ (zBj g L n).2.1 ∧ (zBj g L n).2.1 ≤ 40) ∧ (-20 ≤ (zBj g L n).2.2.1 ∧ (zBj g L n).2.2.1 ≤ 20) ∧ (-20 ≤ (zBj g L n).2.2.2 ∧ (zBj g L n).2.2.2 ≤ 20) := by
  obtain ⟨k, hk⟩ : ∃ k : Nat, k = 41 := ⟨41, rfl⟩
  have h := zJo_b (f := zKp g L n) (fun a b => zKp_bd hn a b) k (by omega)
  rw [hk, zBj_eq] at h
  exact h
/-- how the class holds it -/
def zJh (st : zJs) (k s x y : Int32) : Prop := match st with
  | none => k = -1 ∧ s = 0
  | some p => k = zi p.1 ∧ s = zi p.2.1 ∧ x = zi p.2.2.1 ∧ y = zi p.2.2.2
theorem zJ_y {f : Int → Int → Int} (hf : ∀ a b, 0 ≤ f a b ∧ f a b ≤ 100) {st : zJs} (hb : zJb st) {k s x y : Int32} (h : zJh st k s x y) {a b : Int} (ha : -20 ≤ a ∧ a ≤ 20) (hbb : -20 ≤ b ∧ b ≤ 20) (hc : k < zi (f a b) ∨ (zi (f a b) = k ∧ ¬ s ≤ zi (zShz a b))) : zJh (zJu f st a b) (zi (f a b)) (zi (zShz a b)) (zi a) (zi b) := by
  cases st with
  | none => exact ⟨rfl, rfl, rfl, rfl⟩
  | some p =>
    have hs : 0 ≤ zShz a b ∧ zShz a b ≤ 40 := by unfold zShz; omega
    have hfa := hf a b
    obtain ⟨b1, b2, b3, b4⟩ := hb
    obtain ⟨rfl, rfl, rfl, rfl⟩ := h
    rw [zi_lt (by omega) (by omega), zi_eq (by omega) (by omega), zi_le (by omega) (by omega)] at hc
    show zJh (if p.1 < f a b ∨ (f a b = p.1 ∧ zShz a b < p.2.1) then some (f a b, zShz a b, a, b) else some p) _ _ _ _
    rw [if_pos (by omega)]
    exact ⟨rfl, rfl, rfl, rfl⟩
theorem zJ_n {f : Int → Int → Int} (hf : ∀ a b, 0 ≤ f a b ∧ f a b ≤ 100) {st : zJs} (hb : zJb st) {k s x y : Int32} (h : zJh st k s x y) {a b : Int} (ha : -20 ≤ a ∧ a ≤ 20) (hbb : -20 ≤ b ∧ b ≤ 20) (hc : ¬ k < zi (f a b)) (hd : ¬ (zi (f a b) = k ∧ ¬ s ≤ zi (zShz a b))) : zJh (zJu f st a b) k s x y := by
  have hs : 0 ≤ zShz a b ∧ zShz a b ≤ 40 := by unfold zShz; omega
  have hfa := hf a b
  cases st with
  | none =>
    obtain ⟨rfl, rfl⟩ := h
    rw [zm_1, zi_lt (by omega) (by omega)] at hc
    exact absurd (by omega) hc
  | some p =>
    obtain ⟨b1, b2, b3, b4⟩ := hb
    obtain ⟨rfl, rfl, rfl, rfl⟩ := h
    rw [zi_lt (by omega) (by omega)] at hc
    rw [zi_eq (by omega) (by omega), zi_le (by omega) (by omega)] at hd
    show zJh (if p.1 < f a b ∨ (f a b = p.1 ∧ zShz a b < p.2.1) then some (f a b, zShz a b, a, b) else some p) _ _ _ _
    rw [if_neg (by omega)]
    exact ⟨rfl, rfl, rfl, rfl⟩
theorem lp_sh2 {d : Nat} {K : List Value → zS → Prop} {mm : zM} {g : Nat → Nat → Int} {L : Int} {n : Nat} (hO : zOg g L n) (hM : zCd g L n mm) (h1 : ∀ j : Nat, j < 41 → mm 10 j = nI (zBt (zAg g L 0 1 ((j : Int) - 20)) n)) (h2 : ∀ j : Nat, j < 41 → mm 11 j = nI (zBt (zAg g L 0 2 ((j : Int) - 20)) n)) (h3 : ∀ j : Nat, j < 81 → mm 12 j = nI (zBt (zAg g L 1 2 ((j : Int) - 40)) n)) {w : Nat} (hw : w < 41) (hK : ∀ (m1 : zM) (k s : Int32) (y4 y5 y6 : Option Value) (hf : ∀ c, c ≠ 7 → m1 c = mm c) (h0 : m1 7 0 = mm 7 0) (hj : zJh (zJo (zKp g L n) (w + 1)) k s (m1 7 1) (m1 7 2)), wx (d + 3) mX3_settleShifts 7 [some (.ref 2), some (.int k), some (.int s), some (.int (zi (((w + 1 : Nat) : Int) - 20))), y4, y5, y6] [] (zG m1) K) : ∀ (c i : Nat) (m1 : zM) (k s : Int32) (y5 y6 : Option Value), i + c = 41 → (∀ c, c ≠ 7 → m1 c = mm c) → (m1 7 0 = mm 7 0) → (zJh (zJi (zKp g L n) ((w : Int) - 20) (zJo (zKp g L n) w) i) k s (m1 7 1) (m1 7 2)) → wx (d + 3) mX3_settleShifts 17 [some (.ref 2), some (.int k), some (.int s), some (.int (zi ((w : Int) - 20))), some (.int (zi ((i : Int) - 20))), y5, y6] [] (zG m1) K := by
  intro c
  induction c with
  | zero =>
    intro i m1 k s y5 y6 hi hf h0 hj
    obtain rfl : i = 41 := by omega
    refine wx_iload dX3_settleShifts_17 rfl ?_
    refine wx_bipush (v := 20) dX3_settleShifts_19 (by decide) ?_
    refine wx_icmp_gt (tgt := 90) dX3_settleShifts_21 (by decide) (fun h21 => ?_) (fun h21 => ?_)
    · skip
      refine wx_inc (c := 1) dX3_settleShifts_90 rfl (by decide) (Nat.le_of_ble_eq_true rfl) rfl ?_
      refine wx_goto (tgt := 7) dX3_settleShifts_93 (by decide) ?_
      rw [zl_1, zi_add, show (w : Int) - 20 + 1 = ((w + 1 : Nat) : Int) - 20 by omega]
      exact hK m1 k s _ _ _ hf h0 hj
    · exact absurd (show (20 : Int32) < zi _ by rw [show (20 : Int32) = zi 20 from rfl, zi_lt (by omega) (by omega)]; omega) h21 --end
  | succ c ih =>
    intro i m1 k s y5 y6 hi hf h0 hj
    refine wx_iload dX3_settleShifts_17 rfl ?_
    refine wx_bipush (v := 20) dX3_settleShifts_19 (by decide) ?_
    refine wx_icmp_gt (tgt := 90) dX3_settleShifts_21 (by decide) (fun h21 => ?_) (fun h21 => ?_)
    · exact absurd h21 (by rw [show (20 : Int32) = zi 20 from rfl, zi_lt (by omega) (by omega)]; omega) --end
    · skip
      refine wx_iload_n (i := 3) dX3_settleShifts_24 rfl rfl ?_
      refine wx_S1 dX3_settleShifts_25 zPS_J9_abs_0f7a4 zLk_X3_83 (Nat.le_of_ble_eq_true rfl) (Or.inr rfl) ?_
      refine s_J9_abs_0f7a4 _ ?_
      rw [zab (by omega)]
      refine wx_r1 ?_
      refine wx_iload dX3_settleShifts_28 rfl ?_
      refine wx_S1 dX3_settleShifts_30 zPS_J9_abs_0f7a4 zLk_X3_83 (Nat.le_of_ble_eq_true rfl) (Or.inr rfl) ?_
      refine s_J9_abs_0f7a4 _ ?_
      rw [zab (by omega)]
      refine wx_r1 ?_
      refine wx_iadd dX3_settleShifts_33 ?_
      refine wx_istore dX3_settleShifts_34 (Nat.le_of_ble_eq_true rfl) rfl ?_
      refine wx_aload_n (i := 0) dX3_settleShifts_36 rfl rfl ?_
      refine wx_iload_n (i := 3) dX3_settleShifts_37 rfl rfl ?_
      refine wx_iload dX3_settleShifts_38 rfl ?_
      refine wx_V2 dX3_settleShifts_40 zPV_X3_keptMore zLk_X3_88 rfl (Nat.le_of_ble_eq_true rfl) (Nat.le_of_ble_eq_true rfl) (Or.inr rfl) ?_
      refine s_X3_keptMore hO.2.2.2 (by omega) (by omega) (fun j hj => by rw [hf 10 (by decide)]; exact h1 j hj) (fun j hj => by rw [hf 11 (by decide)]; exact h2 j hj) (fun j hj => by rw [hf 12 (by decide)]; exact h3 j hj) ?_
      refine wx_r1 ?_
      refine wx_istore dX3_settleShifts_43 (Nat.le_of_ble_eq_true rfl) rfl ?_
      refine wx_iload dX3_settleShifts_45 rfl ?_
      refine wx_iload_n (i := 1) dX3_settleShifts_47 rfl rfl ?_
      refine wx_icmp_gt (tgt := 63) dX3_settleShifts_48 (by decide) (fun h48 => ?_) (fun h48 => ?_)
      · have hd := zJ_y (fun a b => zKp_bd hO.2.2.2 a b) (zJi_b (fun a b => zKp_bd hO.2.2.2 a b) (zJo_b (fun a b => zKp_bd hO.2.2.2 a b) w (by omega)) (a := (w : Int) - 20) (by omega) i (by omega)) hj (a := (w : Int) - 20) (b := (i : Int) - 20) (by omega) (by omega) (Or.inl h48)
        refine wx_iload dX3_settleShifts_63 rfl ?_
        refine wx_istore_n (i := 1) dX3_settleShifts_65 rfl (Nat.le_of_ble_eq_true rfl) rfl ?_
        refine wx_iload dX3_settleShifts_66 rfl ?_
        refine wx_istore_n (i := 2) dX3_settleShifts_68 rfl (Nat.le_of_ble_eq_true rfl) rfl ?_
        refine wx_aload_n (i := 0) dX3_settleShifts_69 rfl rfl ?_
        refine wx_getRG (k := 2) (t := 7) dX3_settleShifts_70 zF_X3_16 zKo_2 rfl (Nat.le_of_ble_eq_true rfl) zRf_2_1 ?_
        refine wx_iconst (v := 1) dX3_settleShifts_73 (by decide) ?_
        refine wx_iload_n (i := 3) dX3_settleShifts_74 rfl rfl ?_
        refine wx_iastG (k := 7) (j := 1) dX3_settleShifts_75 zK_7 (Nat.le_of_ble_eq_true rfl) rfl ?_ ?_
        · exact ⟨by omega, by decide⟩
        refine wx_aload_n (i := 0) dX3_settleShifts_76 rfl rfl ?_
        refine wx_getRG (k := 2) (t := 7) dX3_settleShifts_77 zF_X3_16 zKo_2 rfl (Nat.le_of_ble_eq_true rfl) zRf_2_1 ?_
        refine wx_iconst (v := 2) dX3_settleShifts_80 (by decide) ?_
        refine wx_iload dX3_settleShifts_81 rfl ?_
        refine wx_iastG (k := 7) (j := 2) dX3_settleShifts_83 zK_7 (Nat.le_of_ble_eq_true rfl) rfl ?_ ?_
        · exact ⟨by omega, by decide⟩
        refine wx_inc (c := 1) dX3_settleShifts_84 rfl (by decide) (Nat.le_of_ble_eq_true rfl) rfl ?_
        refine wx_goto (tgt := 17) dX3_settleShifts_87 (by decide) ?_
        rw [show zi ((i : Int) - 20) + 1 = zi (((i + 1 : Nat) : Int) - 20) from by rw [zl_1, zi_add]; exact congrArg zi (by omega)]
        rw [show zi (((w : Int) - 20).natAbs : Int) + zi (((i : Int) - 20).natAbs : Int) = zi (zShz ((w : Int) - 20) ((i : Int) - 20)) from zi_add _ _]
        exact ih (i + 1) _ _ _ _ _ (by omega) (fun c w1 => (zU_ne w1).trans ((zU_ne w1).trans (hf c w1))) (by rw [zU_off (by decide), zU_off (by decide)]; exact h0) (by rw [zU_same, zU_off (by decide), zU_same]; exact hd)
      · skip
        refine wx_iload dX3_settleShifts_51 rfl ?_
        refine wx_iload_n (i := 1) dX3_settleShifts_53 rfl rfl ?_
        refine wx_icmp_ne (tgt := 84) dX3_settleShifts_54 (by decide) (fun h54 => ?_) (fun h54 => ?_)
        · have hd := zJ_n (fun a b => zKp_bd hO.2.2.2 a b) (zJi_b (fun a b => zKp_bd hO.2.2.2 a b) (zJo_b (fun a b => zKp_bd hO.2.2.2 a b) w (by omega)) (a := (w : Int) - 20) (by omega) i (by omega)) hj (a := (w : Int) - 20) (b := (i : Int) - 20) (by omega) (by omega) h48 (fun u => h54 u.1)
          refine wx_inc (c := 1) dX3_settleShifts_84 rfl (by decide) (Nat.le_of_ble_eq_true rfl) rfl ?_
          refine wx_goto (tgt := 17) dX3_settleShifts_87 (by decide) ?_
          rw [show zi ((i : Int) - 20) + 1 = zi (((i + 1 : Nat) : Int) - 20) from by rw [zl_1, zi_add]; exact congrArg zi (by omega)]
          exact ih (i + 1) m1 k s _ _ (by omega) hf h0 hd
        · skip
          refine wx_iload dX3_settleShifts_57 rfl ?_
          refine wx_iload_n (i := 2) dX3_settleShifts_59 rfl rfl ?_
          refine wx_icmp_ge (tgt := 84) dX3_settleShifts_60 (by decide) (fun h60 => ?_) (fun h60 => ?_)
          · have hd := zJ_n (fun a b => zKp_bd hO.2.2.2 a b) (zJi_b (fun a b => zKp_bd hO.2.2.2 a b) (zJo_b (fun a b => zKp_bd hO.2.2.2 a b) w (by omega)) (a := (w : Int) - 20) (by omega) i (by omega)) hj (a := (w : Int) - 20) (b := (i : Int) - 20) (by omega) (by omega) h48 (fun u => u.2 (show s ≤ zi (zShz _ _) by unfold zShz; rw [← zi_add]; exact h60))
            refine wx_inc (c := 1) dX3_settleShifts_84 rfl (by decide) (Nat.le_of_ble_eq_true rfl) rfl ?_
            refine wx_goto (tgt := 17) dX3_settleShifts_87 (by decide) ?_
            rw [show zi ((i : Int) - 20) + 1 = zi (((i + 1 : Nat) : Int) - 20) from by rw [zl_1, zi_add]; exact congrArg zi (by omega)]
            exact ih (i + 1) m1 k s _ _ (by omega) hf h0 hd
          · have hd := zJ_y (fun a b => zKp_bd hO.2.2.2 a b) (zJi_b (fun a b => zKp_bd hO.2.2.2 a b) (zJo_b (fun a b => zKp_bd hO.2.2.2 a b) w (by omega)) (a := (w : Int) - 20) (by omega) i (by omega)) hj (a := (w : Int) - 20) (b := (i : Int) - 20) (by omega) (by omega) (Or.inr ⟨h54, fun u => h60 (by rw [zi_add]; exact u)⟩)
            refine wx_iload dX3_settleShifts_63 rfl ?_
            refine wx_istore_n (i := 1) dX3_settleShifts_65 rfl (Nat.le_of_ble_eq_true rfl) rfl ?_
            refine wx_iload dX3_settleShifts_66 rfl ?_
            refine wx_istore_n (i := 2) dX3_settleShifts_68 rfl (Nat.le_of_ble_eq_true rfl) rfl ?_
            refine wx_aload_n (i := 0) dX3_settleShifts_69 rfl rfl ?_
            refine wx_getRG (k := 2) (t := 7) dX3_settleShifts_70 zF_X3_16 zKo_2 rfl (Nat.le_of_ble_eq_true rfl) zRf_2_1 ?_
            refine wx_iconst (v := 1) dX3_settleShifts_73 (by decide) ?_
            refine wx_iload_n (i := 3) dX3_settleShifts_74 rfl rfl ?_
            refine wx_iastG (k := 7) (j := 1) dX3_settleShifts_75 zK_7 (Nat.le_of_ble_eq_true rfl) rfl ?_ ?_
            · exact ⟨by omega, by decide⟩
            refine wx_aload_n (i := 0) dX3_settleShifts_76 rfl rfl ?_
            refine wx_getRG (k := 2) (t := 7) dX3_settleShifts_77 zF_X3_16 zKo_2 rfl (Nat.le_of_ble_eq_true rfl) zRf_2_1 ?_
            refine wx_iconst (v := 2) dX3_settleShifts_80 (by decide) ?_
            refine wx_iload dX3_settleShifts_81 rfl ?_
            refine wx_iastG (k := 7) (j := 2) dX3_settleShifts_83 zK_7 (Nat.le_of_ble_eq_true rfl) rfl ?_ ?_
            · exact ⟨by omega, by decide⟩
            refine wx_inc (c := 1) dX3_settleShifts_84 rfl (by decide) (Nat.le_of_ble_eq_true rfl) rfl ?_
            refine wx_goto (tgt := 17) dX3_settleShifts_87 (by decide) ?_
            rw [show zi ((i : Int) - 20) + 1 = zi (((i + 1 : Nat) : Int) - 20) from by rw [zl_1, zi_add]; exact congrArg zi (by omega)]
            rw [show zi (((w : Int) - 20).natAbs : Int) + zi (((i : Int) - 20).natAbs : Int) = zi (zShz ((w : Int) - 20) ((i : Int) - 20)) from zi_add _ _]
            exact ih (i + 1) _ _ _ _ _ (by omega) (fun c w1 => (zU_ne w1).trans ((zU_ne w1).trans (hf c w1))) (by rw [zU_off (by decide), zU_off (by decide)]; exact h0) (by rw [zU_same, zU_off (by decide), zU_same]; exact hd)
theorem lp_sh1 {d : Nat} {K : List Value → zS → Prop} {mm : zM} {g : Nat → Nat → Int} {L : Int} {n : Nat} (hO : zOg g L n) (hM : zCd g L n mm) (h1 : ∀ j : Nat, j < 41 → mm 10 j = nI (zBt (zAg g L 0 1 ((j : Int) - 20)) n)) (h2 : ∀ j : Nat, j < 41 → mm 11 j = nI (zBt (zAg g L 0 2 ((j : Int) - 20)) n)) (h3 : ∀ j : Nat, j < 81 → mm 12 j = nI (zBt (zAg g L 1 2 ((j : Int) - 40)) n)) (hK : ∀ (m2 : zM) (hf : ∀ c j, c ≠ 7 → ¬ (c = 2 ∧ j = 9) → m2 c j = mm c j) (h70 : m2 7 0 = mm 7 0) (h71 : m2 7 1 = zi (zBj g L n).2.2.1) (h72 : m2 7 2 = zi (zBj g L n).2.2.2) (h29 : m2 2 9 = zi (zT3 g 3 - zTs g n - (zBj g L n).1)), K [] (zG m2)) : ∀ (c i : Nat) (m1 : zM) (k s : Int32) (y4 y5 y6 : Option Value), i + c = 41 → (∀ c, c ≠ 7 → m1 c = mm c) → (m1 7 0 = mm 7 0) → (zJh (zJo (zKp g L n) i) k s (m1 7 1) (m1 7 2)) → wx (d + 3) mX3_settleShifts 7 [some (.ref 2), some (.int k), some (.int s), some (.int (zi ((i : Int) - 20))), y4, y5, y6] [] (zG m1) K := by
  intro c
  induction c with
  | zero =>
    intro i m1 k s y4 y5 y6 hi hf h0 hj
    obtain rfl : i = 41 := by omega
    refine wx_iload_n (i := 3) dX3_settleShifts_7 rfl rfl ?_
    refine wx_bipush (v := 20) dX3_settleShifts_8 (by decide) ?_
    refine wx_icmp_gt (tgt := 96) dX3_settleShifts_10 (by decide) (fun h10 => ?_) (fun h10 => ?_)
    · skip
      refine wx_aload_n (i := 0) dX3_settleShifts_96 rfl rfl ?_
      refine wx_aload_n (i := 0) dX3_settleShifts_97 rfl rfl ?_
      refine wx_V0 dX3_settleShifts_98 zPV_X3_howManyTold zLk_X3_92 rfl (Nat.le_of_ble_eq_true rfl) (Nat.le_of_ble_eq_true rfl) (Or.inr rfl) ?_
      refine s_X3_howManyTold hO (zCd_of hM (fun c w1 w2 => hf c (by omega)) (by rw [hf 2 (by decide)]) (by rw [hf 2 (by decide)])) ?_
      refine wx_r1 ?_
      refine wx_aload_n (i := 0) dX3_settleShifts_101 rfl rfl ?_
      refine wx_V0 dX3_settleShifts_102 zPV_X3_stepsTold zLk_X3_96 rfl (Nat.le_of_ble_eq_true rfl) (Nat.le_of_ble_eq_true rfl) (Or.inr rfl) ?_
      refine s_X3_stepsTold hO (zCd_of hM (fun c w1 w2 => hf c (by omega)) (by rw [hf 2 (by decide)]) (by rw [hf 2 (by decide)])) ?_
      refine wx_r1 ?_
      refine wx_isub dX3_settleShifts_105 ?_
      refine wx_iload_n (i := 1) dX3_settleShifts_106 rfl rfl ?_
      refine wx_isub dX3_settleShifts_107 ?_
      refine wx_putIG (k := 2) dX3_settleShifts_108 zF_X3_59 zKo_2 rfl (Nat.le_of_ble_eq_true rfl) rfl rfl ?_
      refine wx_vret dX3_settleShifts_111 rfl (Or.inl rfl) ?_
      rw [zBj_eq] at hj
      refine hK _ (fun c j w1 w2 => by rw [zU_off w2, hf c w1]) (by rw [zU_ne (by decide)]; exact h0) (by rw [zU_ne (by decide)]; exact hj.2.2.1) (by rw [zU_ne (by decide)]; exact hj.2.2.2) ?_
      rw [zU_same, hj.1, zi_sub, zi_sub]
    · exact absurd (show (20 : Int32) < zi _ by rw [show (20 : Int32) = zi 20 from rfl, zi_lt (by omega) (by omega)]; omega) h10 --end
  | succ c ih =>
    intro i m1 k s y4 y5 y6 hi hf h0 hj
    refine wx_iload_n (i := 3) dX3_settleShifts_7 rfl rfl ?_
    refine wx_bipush (v := 20) dX3_settleShifts_8 (by decide) ?_
    refine wx_icmp_gt (tgt := 96) dX3_settleShifts_10 (by decide) (fun h10 => ?_) (fun h10 => ?_)
    · exact absurd h10 (by rw [show (20 : Int32) = zi 20 from rfl, zi_lt (by omega) (by omega)]; omega) --end
    · skip
      refine wx_bipush (v := (-20)) dX3_settleShifts_13 (by decide) ?_
      refine wx_istore dX3_settleShifts_15 (Nat.le_of_ble_eq_true rfl) rfl ?_
      exact lp_sh2 hO hM h1 h2 h3 (w := i) (by omega) (fun m2 k2 s2 y4 y5 y6 hf2 h02 hj2 => ih (i + 1) m2 k2 s2 y4 y5 y6 (by omega) hf2 h02 hj2) 41 0 m1 k s _ _ (by omega) hf h0 hj
theorem s_X3_settleShifts {d : Nat} {K : List Value → zS → Prop} {mm : zM} {g : Nat → Nat → Int} {L : Int} {n : Nat} (hO : zOg g L n) (hM : zCd g L n mm) (h1 : ∀ j : Nat, j < 41 → mm 10 j = nI (zBt (zAg g L 0 1 ((j : Int) - 20)) n)) (h2 : ∀ j : Nat, j < 41 → mm 11 j = nI (zBt (zAg g L 0 2 ((j : Int) - 20)) n)) (h3 : ∀ j : Nat, j < 81 → mm 12 j = nI (zBt (zAg g L 1 2 ((j : Int) - 40)) n)) (hK : ∀ (m2 : zM) (hf : ∀ c j, c ≠ 7 → ¬ (c = 2 ∧ j = 9) → m2 c j = mm c j) (h70 : m2 7 0 = mm 7 0) (h71 : m2 7 1 = zi (zBj g L n).2.2.1) (h72 : m2 7 2 = zi (zBj g L n).2.2.2) (h29 : m2 2 9 = zi (zT3 g 3 - zTs g n - (zBj g L n).1)), K [] (zG m2)) : wm (d + 3) mX3_settleShifts [.ref 2] (zG mm) K := by
  refine wm_of2 (L0 := [some (.ref 2), none, none, none, none, none, none]) zCm_X3_settleShifts (Or.inl rfl) (Nat.le_of_ble_eq_true rfl) rfl ?_
  refine wx_iconst (v := (-1)) dX3_settleShifts_0 (by decide) ?_
  refine wx_istore_n (i := 1) dX3_settleShifts_1 rfl (Nat.le_of_ble_eq_true rfl) rfl ?_
  refine wx_iconst (v := 0) dX3_settleShifts_2 (by decide) ?_
  refine wx_istore_n (i := 2) dX3_settleShifts_3 rfl (Nat.le_of_ble_eq_true rfl) rfl ?_
  refine wx_bipush (v := (-20)) dX3_settleShifts_4 (by decide) ?_
  refine wx_istore_n (i := 3) dX3_settleShifts_6 rfl (Nat.le_of_ble_eq_true rfl) rfl ?_
  exact lp_sh1 hO hM h1 h2 h3 hK 41 0 mm _ _ _ _ _ (by omega) (fun _ _ => rfl) rfl ⟨rfl, rfl⟩
