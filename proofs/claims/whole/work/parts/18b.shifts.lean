/-! the shifts of the class -/
def zSb (q : Nat → Bool) : Nat → Nat
  | 0 => 0
  | n + 1 => zSb q n + (q n).toNat
theorem zSb_le (q : Nat → Bool) : ∀ n, zSb q n ≤ n
  | 0 => Nat.le_refl _
  | n + 1 => Nat.add_le_add (zSb_le q n) (Bool.toNat_le _)
theorem zCb_sb {q : Nat → Bool} {x n : Nat} (h : ∀ j, x.testBit j = (decide (j < n) && q j)) (hn : n ≤ 15) : zCb 15 x = zSb q n := by
  have h1 : ∀ k, k ≤ n → zCb k x = zSb q k := by
    intro k
    induction k with
    | zero => intro _; rfl
    | succ k ih =>
      intro hk
      show zCb k x + _ = zSb q k + _
      rw [ih (by omega), h k, decide_eq_true (by omega : k < n), Bool.true_and]
  have h2 : ∀ k, zCb (n + k) x = zSb q n := by
    intro k
    induction k with
    | zero => exact h1 n (Nat.le_refl n)
    | succ k ih =>
      show zCb (n + k) x + (x.testBit (n + k)).toNat = _
      rw [ih, h (n + k), decide_eq_false (by omega : ¬ n + k < n), Bool.false_and]
      rfl
  have := h2 (15 - n)
  rwa [show n + (15 - n) = 15 by omega] at this
def zAny (g : Nat → Nat → Int) (L a b : Int) (i : Nat) : Bool := (zAg g L 0 1 a i || zAg g L 0 2 b i) || zAg g L 1 2 (b - a) i
def zAll (g : Nat → Nat → Int) (L a b : Int) (i : Nat) : Bool := (zAg g L 0 1 a i && zAg g L 0 2 b i) && zAg g L 1 2 (b - a) i
/-- how many readings are kept besides one of each step -/
def zKp (g : Nat → Nat → Int) (L : Int) (n : Nat) (a b : Int) : Int := ((zSb (zAny g L a b) n + zSb (zAll g L a b) n : Nat) : Int)
theorem zKp_bd {g : Nat → Nat → Int} {L : Int} {n : Nat} (hn : n ≤ 15) (a b : Int) : 0 ≤ zKp g L n a b ∧ zKp g L n a b ≤ 100 := by
  unfold zKp
  have h1 := zSb_le (zAny g L a b) n
  have h2 := zSb_le (zAll g L a b) n
  omega
theorem zBt_l15 (p : Nat → Bool) {n : Nat} (hn : n ≤ 15) : zBt p n < 32768 := Nat.lt_of_lt_of_le (zBt_lt p n) (Nat.pow_le_pow_right (by decide) hn : 2 ^ n ≤ 2 ^ 15)
theorem zor15 {a b : Nat} (h : a < 32768) (g : b < 32768) : a ||| b < 32768 := Nat.or_lt_two_pow (n := 15) h g
theorem zand15 {a b : Nat} (h : a < 32768) : a &&& b < 32768 := Nat.lt_of_le_of_lt Nat.and_le_left h
theorem s_X3_keptMore {d : Nat} {K : List Value → zS → Prop} {mm : zM} {g : Nat → Nat → Int} {L : Int} {n : Nat} {a b : Int} (hn : n ≤ 15) (ha : -20 ≤ a ∧ a ≤ 20) (hb : -20 ≤ b ∧ b ≤ 20) (h1 : ∀ j : Nat, j < 41 → mm 10 j = nI (zBt (zAg g L 0 1 ((j : Int) - 20)) n)) (h2 : ∀ j : Nat, j < 41 → mm 11 j = nI (zBt (zAg g L 0 2 ((j : Int) - 20)) n)) (h3 : ∀ j : Nat, j < 81 → mm 12 j = nI (zBt (zAg g L 1 2 ((j : Int) - 40)) n)) (hK : K [.int (zi (zKp g L n a b))] (zG mm)) : wm (d + 2) mX3_keptMore [.ref 2, .int (zi a), .int (zi b)] (zG mm) K := by
  have e1 := h1 (a + 20).toNat (by omega)
  have e2 := h2 (b + 20).toNat (by omega)
  have e3 := h3 (b - a + 40).toNat (by omega)
  rw [show ((a + 20).toNat : Int) - 20 = a by omega] at e1
  rw [show ((b + 20).toNat : Int) - 20 = b by omega] at e2
  rw [show ((b - a + 40).toNat : Int) - 40 = b - a by omega] at e3
  refine wm_of2 (L0 := [some (.ref 2), some (.int (zi a)), some (.int (zi b)), none, none, none]) zCm_X3_keptMore (Or.inl rfl) (Nat.le_of_ble_eq_true rfl) rfl ?_
  refine wx_aload_n (i := 0) dX3_keptMore_0 rfl rfl ?_
  refine wx_getRG (k := 2) (t := 10) dX3_keptMore_1 zF_X3_26 zKo_2 rfl (Nat.le_of_ble_eq_true rfl) zRf_2_4 ?_
  refine wx_iload_n (i := 1) dX3_keptMore_4 rfl rfl ?_
  refine wx_bipush (v := 20) dX3_keptMore_5 (by decide) ?_
  refine wx_iadd dX3_keptMore_7 ?_
  refine wx_ialdG (k := 10) (j := (a + 20).toNat) dX3_keptMore_8 zK_10 (Nat.le_of_ble_eq_true rfl) ?_ ?_ ?_
  · (rw [show (20 : Int32) = zi 20 from rfl, zi_add, zi_nI]; exact congrArg zi (by omega))
  · exact ⟨by omega, by decide⟩
  refine wx_istore_n (i := 3) dX3_keptMore_9 rfl (Nat.le_of_ble_eq_true rfl) rfl ?_
  refine wx_aload_n (i := 0) dX3_keptMore_10 rfl rfl ?_
  refine wx_getRG (k := 2) (t := 11) dX3_keptMore_11 zF_X3_29 zKo_2 rfl (Nat.le_of_ble_eq_true rfl) zRf_2_5 ?_
  refine wx_iload_n (i := 2) dX3_keptMore_14 rfl rfl ?_
  refine wx_bipush (v := 20) dX3_keptMore_15 (by decide) ?_
  refine wx_iadd dX3_keptMore_17 ?_
  refine wx_ialdG (k := 11) (j := (b + 20).toNat) dX3_keptMore_18 zK_11 (Nat.le_of_ble_eq_true rfl) ?_ ?_ ?_
  · (rw [show (20 : Int32) = zi 20 from rfl, zi_add, zi_nI]; exact congrArg zi (by omega))
  · exact ⟨by omega, by decide⟩
  refine wx_istore dX3_keptMore_19 (Nat.le_of_ble_eq_true rfl) rfl ?_
  refine wx_aload_n (i := 0) dX3_keptMore_21 rfl rfl ?_
  refine wx_getRG (k := 2) (t := 12) dX3_keptMore_22 zF_X3_32 zKo_2 rfl (Nat.le_of_ble_eq_true rfl) zRf_2_6 ?_
  refine wx_iload_n (i := 2) dX3_keptMore_25 rfl rfl ?_
  refine wx_iload_n (i := 1) dX3_keptMore_26 rfl rfl ?_
  refine wx_isub dX3_keptMore_27 ?_
  refine wx_bipush (v := 40) dX3_keptMore_28 (by decide) ?_
  refine wx_iadd dX3_keptMore_30 ?_
  refine wx_ialdG (k := 12) (j := (b - a + 40).toNat) dX3_keptMore_31 zK_12 (Nat.le_of_ble_eq_true rfl) ?_ ?_ ?_
  · (rw [show (40 : Int32) = zi 40 from rfl, zi_sub, zi_add, zi_nI]; exact congrArg zi (by omega))
  · exact ⟨by omega, by decide⟩
  refine wx_istore dX3_keptMore_32 (Nat.le_of_ble_eq_true rfl) rfl ?_
  refine wx_iload_n (i := 3) dX3_keptMore_34 rfl rfl ?_
  refine wx_iload dX3_keptMore_35 rfl ?_
  refine wx_ior dX3_keptMore_37 ?_
  refine wx_iload dX3_keptMore_38 rfl ?_
  refine wx_ior dX3_keptMore_40 ?_
  refine wx_S1 dX3_keptMore_41 zPS_J6_bitCount_0f7a4 zLk_X3_99 (Nat.le_of_ble_eq_true rfl) (Or.inr rfl) ?_
  rw [e1, e2, e3, nI_or, nI_or]
  refine s_J6_bitCount_0f7a4 (zor15 (zor15 (zBt_l15 _ hn) (zBt_l15 _ hn)) (zBt_l15 _ hn)) ?_
  refine wx_r1 ?_
  refine wx_iload_n (i := 3) dX3_keptMore_44 rfl rfl ?_
  refine wx_iload dX3_keptMore_45 rfl ?_
  refine wx_iand dX3_keptMore_47 ?_
  refine wx_iload dX3_keptMore_48 rfl ?_
  refine wx_iand dX3_keptMore_50 ?_
  refine wx_S1 dX3_keptMore_51 zPS_J6_bitCount_0f7a4 zLk_X3_99 (Nat.le_of_ble_eq_true rfl) (Or.inr rfl) ?_
  rw [nI_and, nI_and]
  refine s_J6_bitCount_0f7a4 (zand15 (zand15 (zBt_l15 _ hn))) ?_
  refine wx_r1 ?_
  refine wx_iadd dX3_keptMore_54 ?_
  refine wx_iret dX3_keptMore_55 rfl rfl (Or.inl rfl) ?_
  rw [nI_add, zCb_sb (q := zAny g L a b) (n := n) (fun j => by rw [Nat.testBit_or, Nat.testBit_or, zBt_test, zBt_test, zBt_test]; unfold zAny; cases decide (j < n) <;> simp) hn, zCb_sb (q := zAll g L a b) (n := n) (fun j => by rw [Nat.testBit_and, Nat.testBit_and, zBt_test, zBt_test, zBt_test]; unfold zAll; cases decide (j < n) <;> simp) hn, zi_nI]
  exact hK
/-- how many of the first readings of a test are told -/
def zTl (f : Nat → Int) : Nat → Int
  | 0 => 0
  | i + 1 => zTl f i + (if f i = 5000 then 0 else 1)
def zT3 (g : Nat → Nat → Int) : Nat → Int
  | 0 => 0
  | t + 1 => zT3 g t + zTl (g t) 15
/-- steps that are told -/
def zTs (g : Nat → Nat → Int) : Nat → Int
  | 0 => 0
  | i + 1 => zTs g i + (if g 0 i = 5000 ∧ g 1 i = 5000 ∧ g 2 i = 5000 then 0 else 1)
theorem zTl_y {f : Nat → Int} {i : Nat} (h : ¬ f i = 5000) : zTl f (i + 1) = zTl f i + 1 := by
  show _ + _ = _
  rw [if_neg h]
theorem zTl_n {f : Nat → Int} {i : Nat} (h : f i = 5000) : zTl f (i + 1) = zTl f i := by
  show _ + _ = _
  rw [if_pos h]; omega
theorem zTs_y {g : Nat → Nat → Int} {i : Nat} (h : ¬ (g 0 i = 5000 ∧ g 1 i = 5000 ∧ g 2 i = 5000)) : zTs g (i + 1) = zTs g i + 1 := by
  show _ + _ = _
  rw [if_neg h]
theorem zTs_n {g : Nat → Nat → Int} {i : Nat} (h : g 0 i = 5000 ∧ g 1 i = 5000 ∧ g 2 i = 5000) : zTs g (i + 1) = zTs g i := by
  show _ + _ = _
  rw [if_pos h]; omega
theorem lp_told1 {d : Nat} {K : List Value → zS → Prop} {mm : zM} {g : Nat → Nat → Int} {L : Int} {n : Nat} (hO : zOg g L n) (hM : zCd g L n mm) {w : Nat} (hw : w < 3) (hK : ∀ (y1 y2 y3 y4 y5 : Option Value), wx (d + 2) mX3_howManyTold 13 [some (.ref 2), some (.int (zi (zT3 g (w + 1)))), some (.ref 3), some (.int 3), some (.int (nI (w + 1))), y1, y2, y3, y4, y5] [] (zG mm) K) : ∀ (c i : Nat) (y : Option Value), i + c = 15 →  wx (d + 2) mX3_howManyTold 37 [some (.ref 2), some (.int (zi (zT3 g w + zTl (g w) i))), some (.ref 3), some (.int 3), some (.int (nI w)), some (.ref (3 + 1 + w)), some (.ref (3 + 1 + w)), some (.int 15), some (.int (nI i)), y] [] (zG mm) K := by
  intro c
  induction c with
  | zero =>
    intro i y hi 
    obtain rfl : i = 15 := by omega
    refine wx_iload dX3_howManyTold_37 rfl ?_
    refine wx_iload dX3_howManyTold_39 rfl ?_
    refine wx_icmp_ge (tgt := 68) dX3_howManyTold_41 (by decide) (fun h41 => ?_) (fun h41 => ?_)
    · skip
      refine wx_inc (c := 1) dX3_howManyTold_68 rfl (by decide) (Nat.le_of_ble_eq_true rfl) rfl ?_
      refine wx_goto (tgt := 13) dX3_howManyTold_71 (by decide) ?_
      rw [nI_1]
      exact hK _ _ _ _ _
    · exact absurd (show nI 15 ≤ nI 15 from nI_le (by omega) (by omega)) h41 --end
  | succ c ih =>
    intro i y hi 
    refine wx_iload dX3_howManyTold_37 rfl ?_
    refine wx_iload dX3_howManyTold_39 rfl ?_
    refine wx_icmp_ge (tgt := 68) dX3_howManyTold_41 (by decide) (fun h41 => ?_) (fun h41 => ?_)
    · exact absurd (show nI 15 ≤ nI i from h41) (nI_ge (by omega) (by omega)) --end
    · skip
      refine wx_aload dX3_howManyTold_44 rfl ?_
      refine wx_iload dX3_howManyTold_46 rfl ?_
      refine wx_ialdG dX3_howManyTold_48 (zKin_3 _ hw) (zKlt_3 _ hw) rfl ?_ ?_
      · exact ⟨by omega, by decide⟩
      refine wx_istore dX3_howManyTold_49 (Nat.le_of_ble_eq_true rfl) rfl ?_
      refine wx_iload dX3_howManyTold_51 rfl ?_
      refine wx_sipush (v := 5000) dX3_howManyTold_53 (by decide) ?_
      refine wx_icmp_eq (tgt := 62) dX3_howManyTold_56 (by decide) (fun h56 => ?_) (fun h56 => ?_)
      · rw [hM.1 w i hw (by omega), zl_5000, zi_eq (by have := hO.1 w i; omega) (by omega)] at h56
        have hd : zi (zT3 g w + zTl (g w) i) = zi (zT3 g w + zTl (g w) (i + 1)) := by rw [zTl_n h56]
        refine wx_inc (c := 1) dX3_howManyTold_62 rfl (by decide) (Nat.le_of_ble_eq_true rfl) rfl ?_
        refine wx_goto (tgt := 37) dX3_howManyTold_65 (by decide) ?_
        rw [nI_1, hd]
        exact ih (i + 1) _ (by omega)
      · rw [hM.1 w i hw (by omega), zl_5000, zi_eq (by have := hO.1 w i; omega) (by omega)] at h56
        have hd : zi (zT3 g w + zTl (g w) i) + 1 = zi (zT3 g w + zTl (g w) (i + 1)) := by rw [zTl_y h56, zl_1, zi_add]; exact congrArg zi (by omega)
        refine wx_inc (c := 1) dX3_howManyTold_59 rfl (by decide) (Nat.le_of_ble_eq_true rfl) rfl ?_
        refine wx_inc (c := 1) dX3_howManyTold_62 rfl (by decide) (Nat.le_of_ble_eq_true rfl) rfl ?_
        refine wx_goto (tgt := 37) dX3_howManyTold_65 (by decide) ?_
        rw [nI_1, hd]
        exact ih (i + 1) _ (by omega)
theorem lp_told2 {d : Nat} {K : List Value → zS → Prop} {mm : zM} {g : Nat → Nat → Int} {L : Int} {n : Nat} (hO : zOg g L n) (hM : zCd g L n mm) (hK : K [.int (zi (zT3 g 3))] (zG mm)) : ∀ (c i : Nat) (y1 y2 y3 y4 y5 : Option Value), i + c = 3 →  wx (d + 2) mX3_howManyTold 13 [some (.ref 2), some (.int (zi (zT3 g i))), some (.ref 3), some (.int 3), some (.int (nI i)), y1, y2, y3, y4, y5] [] (zG mm) K := by
  intro c
  induction c with
  | zero =>
    intro i y1 y2 y3 y4 y5 hi 
    obtain rfl : i = 3 := by omega
    refine wx_iload dX3_howManyTold_13 rfl ?_
    refine wx_iload_n (i := 3) dX3_howManyTold_15 rfl rfl ?_
    refine wx_icmp_ge (tgt := 74) dX3_howManyTold_16 (by decide) (fun h16 => ?_) (fun h16 => ?_)
    · skip
      refine wx_iload_n (i := 1) dX3_howManyTold_74 rfl rfl ?_
      refine wx_iret dX3_howManyTold_75 rfl rfl (Or.inl rfl) ?_
      exact hK
    · exact absurd (show nI 3 ≤ nI 3 from nI_le (by omega) (by omega)) h16 --end
  | succ c ih =>
    intro i y1 y2 y3 y4 y5 hi 
    refine wx_iload dX3_howManyTold_13 rfl ?_
    refine wx_iload_n (i := 3) dX3_howManyTold_15 rfl rfl ?_
    refine wx_icmp_ge (tgt := 74) dX3_howManyTold_16 (by decide) (fun h16 => ?_) (fun h16 => ?_)
    · exact absurd (show nI 3 ≤ nI i from h16) (nI_ge (by omega) (by omega)) --end
    · skip
      refine wx_aload_n (i := 2) dX3_howManyTold_19 rfl rfl ?_
      refine wx_iload dX3_howManyTold_20 rfl ?_
      refine wx_aaldG (k := 3) (j := i) dX3_howManyTold_22 zK_3 (Nat.le_of_ble_eq_true rfl) rfl ?_ ?_
      · exact ⟨by omega, by decide⟩
      refine wx_astore dX3_howManyTold_23 (Nat.le_of_ble_eq_true rfl) rfl ?_
      refine wx_aload dX3_howManyTold_25 rfl ?_
      refine wx_astore dX3_howManyTold_27 (Nat.le_of_ble_eq_true rfl) rfl ?_
      refine wx_aload dX3_howManyTold_29 rfl ?_
      refine wx_alen dX3_howManyTold_31 (zKin_3 _ (by omega)) (zKlt_3 _ (by omega)) ?_
      refine wx_istore dX3_howManyTold_32 (Nat.le_of_ble_eq_true rfl) rfl ?_
      refine wx_iconst (v := 0) dX3_howManyTold_34 (by decide) ?_
      refine wx_istore dX3_howManyTold_35 (Nat.le_of_ble_eq_true rfl) rfl ?_
      have e : zi (zT3 g i) = zi (zT3 g i + zTl (g i) 0) := congrArg zi (by show _ = _ + (0 : Int); omega)
      rw [e]
      exact lp_told1 hO hM (by omega) (fun y1 y2 y3 y4 y5 => ih (i + 1) y1 y2 y3 y4 y5 (by omega)) 15 0 _ (by omega)
theorem s_X3_howManyTold {d : Nat} {K : List Value → zS → Prop} {mm : zM} {g : Nat → Nat → Int} {L : Int} {n : Nat} (hO : zOg g L n) (hM : zCd g L n mm) (hK : K [.int (zi (zT3 g 3))] (zG mm)) : wm (d + 2) mX3_howManyTold [.ref 2] (zG mm) K := by
  refine wm_of2 (L0 := [some (.ref 2), none, none, none, none, none, none, none, none, none]) zCm_X3_howManyTold (Or.inl rfl) (Nat.le_of_ble_eq_true rfl) rfl ?_
  refine wx_iconst (v := 0) dX3_howManyTold_0 (by decide) ?_
  refine wx_istore_n (i := 1) dX3_howManyTold_1 rfl (Nat.le_of_ble_eq_true rfl) rfl ?_
  refine wx_aload_n (i := 0) dX3_howManyTold_2 rfl rfl ?_
  refine wx_getRG (k := 2) (t := 3) dX3_howManyTold_3 zF_X3_11 zKo_2 rfl (Nat.le_of_ble_eq_true rfl) zRf_2_0 ?_
  refine wx_astore_n (i := 2) dX3_howManyTold_6 rfl (Nat.le_of_ble_eq_true rfl) rfl ?_
  refine wx_aload_n (i := 2) dX3_howManyTold_7 rfl rfl ?_
  refine wx_alenA (k := 3) dX3_howManyTold_8 zK_3 (Nat.le_of_ble_eq_true rfl) ?_
  refine wx_istore_n (i := 3) dX3_howManyTold_9 rfl (Nat.le_of_ble_eq_true rfl) rfl ?_
  refine wx_iconst (v := 0) dX3_howManyTold_10 (by decide) ?_
  refine wx_istore dX3_howManyTold_11 (Nat.le_of_ble_eq_true rfl) rfl ?_
  exact lp_told2 hO hM hK 3 0 _ _ _ _ _ (by omega)
theorem lp_steps {d : Nat} {K : List Value → zS → Prop} {mm : zM} {g : Nat → Nat → Int} {L : Int} {n : Nat} (hO : zOg g L n) (hM : zCd g L n mm) (hK : K [.int (zi (zTs g n))] (zG mm)) : ∀ (c i : Nat) , i + c = n →  wx (d) mX3_stepsTold 4 [some (.ref 2), some (.int (zi (zTs g i))), some (.int (nI i))] [] (zG mm) K := by
  intro c
  induction c with
  | zero =>
    intro i  hi 
    obtain rfl : i = n := by omega
    refine wx_iload_n (i := 2) dX3_stepsTold_4 rfl rfl ?_
    refine wx_aload_n (i := 0) dX3_stepsTold_5 rfl rfl ?_
    refine wx_getIG (k := 2) dX3_stepsTold_6 zF_X3_43 zKo_2 rfl (Nat.le_of_ble_eq_true rfl) ?_
    refine wx_iconst (v := 1) dX3_stepsTold_9 (by decide) ?_
    refine wx_isub dX3_stepsTold_10 ?_
    refine wx_icmp_ge (tgt := 65) dX3_stepsTold_11 (by decide) (fun h11 => ?_) (fun h11 => ?_)
    · skip
      refine wx_iload_n (i := 1) dX3_stepsTold_65 rfl rfl ?_
      refine wx_iret dX3_stepsTold_66 rfl rfl (Or.inl rfl) ?_
      exact hK
    · exact absurd (zones_ge hM.2.2 hO.2.2.2 (Nat.le_refl _) (by have := hO.2.2; omega)) h11 --end
  | succ c ih =>
    intro i  hi 
    have hL := hO.2
    refine wx_iload_n (i := 2) dX3_stepsTold_4 rfl rfl ?_
    refine wx_aload_n (i := 0) dX3_stepsTold_5 rfl rfl ?_
    refine wx_getIG (k := 2) dX3_stepsTold_6 zF_X3_43 zKo_2 rfl (Nat.le_of_ble_eq_true rfl) ?_
    refine wx_iconst (v := 1) dX3_stepsTold_9 (by decide) ?_
    refine wx_isub dX3_stepsTold_10 ?_
    refine wx_icmp_ge (tgt := 65) dX3_stepsTold_11 (by decide) (fun h11 => ?_) (fun h11 => ?_)
    · exact absurd h11 (zones_lt hM.2.2 hO.2.2.2 (by omega)) --end
    · skip
      refine wx_aload_n (i := 0) dX3_stepsTold_14 rfl rfl ?_
      refine wx_getRG (k := 2) (t := 3) dX3_stepsTold_15 zF_X3_11 zKo_2 rfl (Nat.le_of_ble_eq_true rfl) zRf_2_0 ?_
      refine wx_iconst (v := 0) dX3_stepsTold_18 (by decide) ?_
      refine wx_aaldG (k := 3) (j := 0) dX3_stepsTold_19 zK_3 (Nat.le_of_ble_eq_true rfl) rfl ?_ ?_
      · exact ⟨by omega, by decide⟩
      refine wx_iload_n (i := 2) dX3_stepsTold_20 rfl rfl ?_
      refine wx_ialdG dX3_stepsTold_21 (zKin_3 _ (by omega)) (zKlt_3 _ (by omega)) rfl ?_ ?_
      · exact ⟨by omega, by decide⟩
      refine wx_sipush (v := 5000) dX3_stepsTold_22 (by decide) ?_
      refine wx_icmp_ne (tgt := 56) dX3_stepsTold_25 (by decide) (fun h25 => ?_) (fun h25 => ?_)
      · rw [hM.1 0 i (by omega) (by omega), zl_5000, zi_eq (by have := hO.1 0 i; omega) (by omega)] at h25
        have hd : zi (zTs g i) + 1 = zi (zTs g (i + 1)) := by rw [zTs_y (fun u => h25 u.1), zl_1, zi_add]
        refine wx_inc (c := 1) dX3_stepsTold_56 rfl (by decide) (Nat.le_of_ble_eq_true rfl) rfl ?_
        refine wx_inc (c := 1) dX3_stepsTold_59 rfl (by decide) (Nat.le_of_ble_eq_true rfl) rfl ?_
        refine wx_goto (tgt := 4) dX3_stepsTold_62 (by decide) ?_
        rw [nI_1, hd]
        exact ih (i + 1) (by omega)
      · rw [hM.1 0 i (by omega) (by omega), zl_5000, zi_eq (by have := hO.1 0 i; omega) (by omega)] at h25
        
        refine wx_aload_n (i := 0) dX3_stepsTold_28 rfl rfl ?_
        refine wx_getRG (k := 2) (t := 3) dX3_stepsTold_29 zF_X3_11 zKo_2 rfl (Nat.le_of_ble_eq_true rfl) zRf_2_0 ?_
        refine wx_iconst (v := 1) dX3_stepsTold_32 (by decide) ?_
        refine wx_aaldG (k := 3) (j := 1) dX3_stepsTold_33 zK_3 (Nat.le_of_ble_eq_true rfl) rfl ?_ ?_
        · exact ⟨by omega, by decide⟩
        refine wx_iload_n (i := 2) dX3_stepsTold_34 rfl rfl ?_
        refine wx_ialdG dX3_stepsTold_35 (zKin_3 _ (by omega)) (zKlt_3 _ (by omega)) rfl ?_ ?_
        · exact ⟨by omega, by decide⟩
        refine wx_sipush (v := 5000) dX3_stepsTold_36 (by decide) ?_
        refine wx_icmp_ne (tgt := 56) dX3_stepsTold_39 (by decide) (fun h39 => ?_) (fun h39 => ?_)
        · rw [hM.1 1 i (by omega) (by omega), zl_5000, zi_eq (by have := hO.1 1 i; omega) (by omega)] at h39
          have hd : zi (zTs g i) + 1 = zi (zTs g (i + 1)) := by rw [zTs_y (fun u => h39 u.2.1), zl_1, zi_add]
          refine wx_inc (c := 1) dX3_stepsTold_56 rfl (by decide) (Nat.le_of_ble_eq_true rfl) rfl ?_
          refine wx_inc (c := 1) dX3_stepsTold_59 rfl (by decide) (Nat.le_of_ble_eq_true rfl) rfl ?_
          refine wx_goto (tgt := 4) dX3_stepsTold_62 (by decide) ?_
          rw [nI_1, hd]
          exact ih (i + 1) (by omega)
        · rw [hM.1 1 i (by omega) (by omega), zl_5000, zi_eq (by have := hO.1 1 i; omega) (by omega)] at h39
          
          refine wx_aload_n (i := 0) dX3_stepsTold_42 rfl rfl ?_
          refine wx_getRG (k := 2) (t := 3) dX3_stepsTold_43 zF_X3_11 zKo_2 rfl (Nat.le_of_ble_eq_true rfl) zRf_2_0 ?_
          refine wx_iconst (v := 2) dX3_stepsTold_46 (by decide) ?_
          refine wx_aaldG (k := 3) (j := 2) dX3_stepsTold_47 zK_3 (Nat.le_of_ble_eq_true rfl) rfl ?_ ?_
          · exact ⟨by omega, by decide⟩
          refine wx_iload_n (i := 2) dX3_stepsTold_48 rfl rfl ?_
          refine wx_ialdG dX3_stepsTold_49 (zKin_3 _ (by omega)) (zKlt_3 _ (by omega)) rfl ?_ ?_
          · exact ⟨by omega, by decide⟩
          refine wx_sipush (v := 5000) dX3_stepsTold_50 (by decide) ?_
          refine wx_icmp_eq (tgt := 59) dX3_stepsTold_53 (by decide) (fun h53 => ?_) (fun h53 => ?_)
          · rw [hM.1 2 i (by omega) (by omega), zl_5000, zi_eq (by have := hO.1 2 i; omega) (by omega)] at h53
            have hd : zi (zTs g i) = zi (zTs g (i + 1)) := by rw [zTs_n ⟨h25, h39, h53⟩]
            refine wx_inc (c := 1) dX3_stepsTold_59 rfl (by decide) (Nat.le_of_ble_eq_true rfl) rfl ?_
            refine wx_goto (tgt := 4) dX3_stepsTold_62 (by decide) ?_
            rw [nI_1, hd]
            exact ih (i + 1) (by omega)
          · rw [hM.1 2 i (by omega) (by omega), zl_5000, zi_eq (by have := hO.1 2 i; omega) (by omega)] at h53
            have hd : zi (zTs g i) + 1 = zi (zTs g (i + 1)) := by rw [zTs_y (fun u => h53 u.2.2), zl_1, zi_add]
            refine wx_inc (c := 1) dX3_stepsTold_56 rfl (by decide) (Nat.le_of_ble_eq_true rfl) rfl ?_
            refine wx_inc (c := 1) dX3_stepsTold_59 rfl (by decide) (Nat.le_of_ble_eq_true rfl) rfl ?_
            refine wx_goto (tgt := 4) dX3_stepsTold_62 (by decide) ?_
            rw [nI_1, hd]
            exact ih (i + 1) (by omega)
theorem s_X3_stepsTold {d : Nat} {K : List Value → zS → Prop} {mm : zM} {g : Nat → Nat → Int} {L : Int} {n : Nat} (hO : zOg g L n) (hM : zCd g L n mm) (hK : K [.int (zi (zTs g n))] (zG mm)) : wm (d) mX3_stepsTold [.ref 2] (zG mm) K := by
  refine wm_of2 (L0 := [some (.ref 2), none, none]) zCm_X3_stepsTold (Or.inl rfl) (Nat.le_of_ble_eq_true rfl) rfl ?_
  refine wx_iconst (v := 0) dX3_stepsTold_0 (by decide) ?_
  refine wx_istore_n (i := 1) dX3_stepsTold_1 rfl (Nat.le_of_ble_eq_true rfl) rfl ?_
  refine wx_iconst (v := 0) dX3_stepsTold_2 (by decide) ?_
  refine wx_istore_n (i := 2) dX3_stepsTold_3 rfl (Nat.le_of_ble_eq_true rfl) rfl ?_
  exact lp_steps hO hM hK n 0 (by omega)
