/-! shells, of both -/
theorem zi_div {x : Int} {k : Nat} (h : -1000000000 ≤ x ∧ x ≤ 1000000000) (hk : 0 < k ∧ k < 1000000) : zi x / zi (k : Int) = zi (x.tdiv k) := by
  apply Int32.toInt_inj.mp
  rw [Int32.toInt_div, zi_toInt (by omega) (by omega), zi_toInt (by omega) (by omega)]
  have hb : (x.tdiv (k : Int)).natAbs ≤ x.natAbs := Int.natAbs_tdiv_le_natAbs x k
  rw [zi_toInt (by omega) (by omega)]
  exact Int.bmod_eq_of_le (by omega) (by omega)
theorem z_tdiv_pos {x : Int} (k : Nat) (h : 0 ≤ x) : x.tdiv k = x / k := Int.tdiv_eq_ediv_of_nonneg h
theorem z_tdiv_neg {x : Int} (k : Nat) (h : x < 0) : x.tdiv k = -((-x) / k) := by
  have e : x = -(-x) := by omega
  rw [e, Int.neg_tdiv, Int.tdiv_eq_ediv_of_nonneg (by omega)]
  simp
theorem z_td4p {x : Int} (h : 0 ≤ x) : x.tdiv 4 = x / 4 := z_tdiv_pos 4 h
theorem z_td4n {x : Int} (h : x < 0) : x.tdiv 4 = -((-x) / 4) := z_tdiv_neg 4 h
theorem z_xor4 (x : Int32) : 0 ≤ x ^^^ 4 ↔ 0 ≤ x := by
  have h : ∀ y : Int32, 0 ≤ y ↔ y.toBitVec.msb = false := fun y => by
    rw [Int32.le_iff_toInt_le, BitVec.msb_eq_toInt]
    show (0 : Int) ≤ y.toBitVec.toInt ↔ _
    simp
  rw [h, h, Int32.toBitVec_xor, BitVec.msb_xor]
  have h4 : (4 : Int32).toBitVec.msb = false := by decide
  rw [h4, Bool.xor_false]
/-- one shell's change -/
def zdf (s : Nat → Int) (a : Int) (k : Nat) : Int := ((if k = 0 then a else s (k - 1)) + (if k + 1 < 8 then s (k + 1) else a) - 2 * s k) / 4
def zsh (s : Nat → Int) (a : Int) (k : Nat) : Int := s k + zdf s a k
def zIt (s : Nat → Int) (a : Int) : Nat → Nat → Int
  | 0 => s
  | n + 1 => zsh (zIt s a n) a
def zBd (s : Nat → Int) (a : Int) : Prop := (∀ k, k < 8 → -100000 ≤ s k ∧ s k ≤ 100000) ∧ -100000 ≤ a ∧ a ≤ 100000
theorem zdf_cong {s t : Nat → Int} {a : Int} (h : ∀ k, k < 8 → s k = t k) {k : Nat} (hk : k < 8) : zdf s a k = zdf t a k := by
  unfold zdf
  rw [h k hk]
  by_cases h0 : k = 0
  · subst h0
    rw [if_pos rfl, if_pos rfl, if_pos (by decide), if_pos (by decide), h 1 (by decide)]
  · rw [if_neg h0, if_neg h0, h (k - 1) (by omega)]
    by_cases h1 : k + 1 < 8
    · rw [if_pos h1, if_pos h1, h (k + 1) h1]
    · rw [if_neg h1, if_neg h1]
theorem zsh_cong {s t : Nat → Int} {a : Int} (h : ∀ k, k < 8 → s k = t k) {k : Nat} (hk : k < 8) : zsh s a k = zsh t a k := by
  unfold zsh
  rw [h k hk, zdf_cong h hk]
theorem zIt_cong {s t : Nat → Int} {a : Int} (h : ∀ k, k < 8 → s k = t k) : ∀ n k, k < 8 → zIt s a n k = zIt t a n k
  | 0, k, hk => h k hk
  | n + 1, k, hk => zsh_cong (fun j hj => zIt_cong h n j hj) hk
theorem zsh_bd {s : Nat → Int} {a : Int} (h : zBd s a) : zBd (zsh s a) a := by
  obtain ⟨h1, h2, h3⟩ := h
  refine ⟨fun k hk => ?_, h2, h3⟩
  have hs := h1 k hk
  unfold zsh zdf
  have hl : -100000 ≤ (if k = 0 then a else s (k - 1)) ∧ (if k = 0 then a else s (k - 1)) ≤ 100000 := by
    by_cases h0 : k = 0
    · rw [if_pos h0]; exact ⟨h2, h3⟩
    · rw [if_neg h0]; exact h1 _ (by omega)
  have hr : -100000 ≤ (if k + 1 < 8 then s (k + 1) else a) ∧ (if k + 1 < 8 then s (k + 1) else a) ≤ 100000 := by
    by_cases h0 : k + 1 < 8
    · rw [if_pos h0]; exact h1 _ h0
    · rw [if_neg h0]; exact ⟨h2, h3⟩
  generalize (if k = 0 then a else s (k - 1)) = x at hl ⊢
  generalize (if k + 1 < 8 then s (k + 1) else a) = y at hr ⊢
  omega
theorem zIt_bd {s : Nat → Int} {a : Int} (h : zBd s a) : ∀ n, zBd (zIt s a n) a
  | 0 => h
  | n + 1 => zsh_bd (zIt_bd h n)
theorem zdf_rg {s : Nat → Int} {a : Int} (h : zBd s a) {k : Nat} (hk : k < 8) : -400000 ≤ (if k = 0 then a else s (k - 1)) + (if k + 1 < 8 then s (k + 1) else a) - 2 * s k ∧ (if k = 0 then a else s (k - 1)) + (if k + 1 < 8 then s (k + 1) else a) - 2 * s k ≤ 400000 := by
  obtain ⟨h1, h2, h3⟩ := h
  have hs := h1 k hk
  have hl : -100000 ≤ (if k = 0 then a else s (k - 1)) ∧ (if k = 0 then a else s (k - 1)) ≤ 100000 := by
    by_cases h0 : k = 0
    · rw [if_pos h0]; exact ⟨h2, h3⟩
    · rw [if_neg h0]; exact h1 _ (by omega)
  have hr : -100000 ≤ (if k + 1 < 8 then s (k + 1) else a) ∧ (if k + 1 < 8 then s (k + 1) else a) ≤ 100000 := by
    by_cases h0 : k + 1 < 8
    · rw [if_pos h0]; exact h1 _ h0
    · rw [if_neg h0]; exact ⟨h2, h3⟩
  omega
/-- it no longer moves -/
theorem zIt_fix {s : Nat → Int} {a : Int} (h : ∀ k, k < 8 → zsh s a k = s k) : ∀ n k, k < 8 → zIt s a n k = s k
  | 0, _, _ => rfl
  | n + 1, k, hk => (zsh_cong (fun j hj => zIt_fix h n j hj) hk).trans (h k hk)
theorem zIt_comm (s : Nat → Int) (a : Int) : ∀ n, zIt s a (n + 1) = zIt (zsh s a) a n
  | 0 => rfl
  | n + 1 => by
    show zsh (zIt s a (n + 1)) a = zsh (zIt (zsh s a) a n) a
    rw [zIt_comm s a n]
def zMx (f : Nat → Int) (o : Int) : Nat → Int
  | 0 => o
  | i + 1 => if f i ≤ zMx f o i then zMx f o i else f i
def zMn (f : Nat → Int) (o : Int) : Nat → Int
  | 0 => o
  | i + 1 => if zMn f o i ≤ f i then zMn f o i else f i
theorem zMx_spec (f : Nat → Int) (o : Int) : ∀ n, (o ≤ zMx f o n ∧ ∀ j, j < n → f j ≤ zMx f o n) ∧ (zMx f o n = o ∨ ∃ j, j < n ∧ zMx f o n = f j)
  | 0 => ⟨⟨Int.le_refl _, fun _ h => absurd h (Nat.not_lt_zero _)⟩, Or.inl rfl⟩
  | n + 1 => by
    obtain ⟨⟨h1, h2⟩, h3⟩ := zMx_spec f o n
    unfold zMx
    by_cases q : f n ≤ zMx f o n
    · rw [if_pos q]
      refine ⟨⟨h1, fun j hj => ?_⟩, ?_⟩
      · rcases Nat.lt_or_ge j n with w | w
        · exact h2 j w
        · rw [show j = n by omega]; exact q
      · rcases h3 with w | ⟨j, w1, w2⟩
        · exact Or.inl w
        · exact Or.inr ⟨j, by omega, w2⟩
    · rw [if_neg q]
      refine ⟨⟨by omega, fun j hj => ?_⟩, Or.inr ⟨n, by omega, rfl⟩⟩
      rcases Nat.lt_or_ge j n with w | w
      · have := h2 j w; omega
      · rw [show j = n by omega]; exact Int.le_refl _
theorem zMn_spec (f : Nat → Int) (o : Int) : ∀ n, (zMn f o n ≤ o ∧ ∀ j, j < n → zMn f o n ≤ f j) ∧ (zMn f o n = o ∨ ∃ j, j < n ∧ zMn f o n = f j)
  | 0 => ⟨⟨Int.le_refl _, fun _ h => absurd h (Nat.not_lt_zero _)⟩, Or.inl rfl⟩
  | n + 1 => by
    obtain ⟨⟨h1, h2⟩, h3⟩ := zMn_spec f o n
    unfold zMn
    by_cases q : zMn f o n ≤ f n
    · rw [if_pos q]
      refine ⟨⟨h1, fun j hj => ?_⟩, ?_⟩
      · rcases Nat.lt_or_ge j n with w | w
        · exact h2 j w
        · rw [show j = n by omega]; exact q
      · rcases h3 with w | ⟨j, w1, w2⟩
        · exact Or.inl w
        · exact Or.inr ⟨j, by omega, w2⟩
    · rw [if_neg q]
      refine ⟨⟨by omega, fun j hj => ?_⟩, Or.inr ⟨n, by omega, rfl⟩⟩
      rcases Nat.lt_or_ge j n with w | w
      · have := h2 j w; omega
      · rw [show j = n by omega]; exact Int.le_refl _
theorem s_J9_floorDiv_7cf53 {d : Nat} {K : List Value → zS → Prop} {σ : zS} {x : Int} (hx : -1000000 ≤ x ∧ x ≤ 1000000) (hK : K [.int (zi (x / 4))] σ) : wm (d) mJ9_floorDiv_7cf53 [.int (zi x), .int 4] σ K := by
  have e0 : zi x / 4 = zi (x.tdiv 4) := zi_div (k := 4) (by omega) (by decide)
  refine wm_of2 (L0 := [some (.int (zi x)), some (.int 4), none]) zCm_J9_floorDiv_7cf53 (Or.inl rfl) (Nat.le_of_ble_eq_true rfl) rfl ?_
  refine wx_iload_n (i := 0) dJ9_floorDiv_7cf53_0 rfl rfl ?_
  refine wx_iload_n (i := 1) dJ9_floorDiv_7cf53_1 rfl rfl ?_
  refine wx_idiv dJ9_floorDiv_7cf53_2 ?_ ?_
  · decide
  refine wx_istore_n (i := 2) dJ9_floorDiv_7cf53_3 rfl (Nat.le_of_ble_eq_true rfl) rfl ?_
  refine wx_iload_n (i := 0) dJ9_floorDiv_7cf53_4 rfl rfl ?_
  refine wx_iload_n (i := 1) dJ9_floorDiv_7cf53_5 rfl rfl ?_
  refine wx_ixor dJ9_floorDiv_7cf53_6 ?_
  refine wx_if_ge (tgt := 21) dJ9_floorDiv_7cf53_7 (by decide) (fun h7 => ?_) (fun h7 => ?_)
  · rw [z_xor4, zl_0, zi_le (by omega) (by omega)] at h7
    refine wx_iload_n (i := 2) dJ9_floorDiv_7cf53_21 rfl rfl ?_
    refine wx_iret dJ9_floorDiv_7cf53_22 rfl rfl (Or.inl rfl) ?_
    refine zki hK ?_
    rw [e0]
    first
      | (have e1 := z_td4p h7
         exact congrArg zi (by omega))
      | (have e1 := z_td4n (show x < 0 by omega)
         rw [e0, zl_4, zi_mul, zi_eq (by omega) (by omega)] at h14
         exact congrArg zi (by omega))
  · rw [z_xor4, zl_0, zi_le (by omega) (by omega)] at h7
    refine wx_iload_n (i := 2) dJ9_floorDiv_7cf53_10 rfl rfl ?_
    refine wx_iload_n (i := 1) dJ9_floorDiv_7cf53_11 rfl rfl ?_
    refine wx_imul dJ9_floorDiv_7cf53_12 ?_
    refine wx_iload_n (i := 0) dJ9_floorDiv_7cf53_13 rfl rfl ?_
    refine wx_icmp_eq (tgt := 21) dJ9_floorDiv_7cf53_14 (by decide) (fun h14 => ?_) (fun h14 => ?_)
    · skip
      refine wx_iload_n (i := 2) dJ9_floorDiv_7cf53_21 rfl rfl ?_
      refine wx_iret dJ9_floorDiv_7cf53_22 rfl rfl (Or.inl rfl) ?_
      refine zki hK ?_
      rw [e0]
      first
        | (have e1 := z_td4p h7
           exact congrArg zi (by omega))
        | (have e1 := z_td4n (show x < 0 by omega)
           rw [e0, zl_4, zi_mul, zi_eq (by omega) (by omega)] at h14
           exact congrArg zi (by omega))
    · skip
      refine wx_iload_n (i := 2) dJ9_floorDiv_7cf53_17 rfl rfl ?_
      refine wx_iconst (v := 1) dJ9_floorDiv_7cf53_18 (by decide) ?_
      refine wx_isub dJ9_floorDiv_7cf53_19 ?_
      refine wx_iret dJ9_floorDiv_7cf53_20 rfl rfl (Or.inl rfl) ?_
      have e1 := z_td4n (show x < 0 by omega)
      rw [e0, zl_4, zi_mul, zi_eq (by omega) (by omega)] at h14
      refine zki hK ?_
      rw [e0, zl_1, zi_sub]
      exact congrArg zi (by omega)
theorem s_X9_down {d : Nat} {K : List Value → zS → Prop} {σ : zS} {x : Int} (hx : -1000000 ≤ x ∧ x ≤ 1000000) (hK : K [.int (zi (x / 4))] σ) : wm (d) mX9_down [.int (zi x), .int 4] σ K := by
  refine wm_of2 (L0 := [some (.int (zi x)), some (.int 4)]) zCm_X9_down (Or.inl rfl) (Nat.le_of_ble_eq_true rfl) rfl ?_
  refine wx_iload_n (i := 0) dX9_down_0 rfl rfl ?_
  refine wx_if_lt (tgt := 10) dX9_down_1 (by decide) (fun h1 => ?_) (fun h1 => ?_)
  · rw [zl_0, zi_lt (by omega) (by omega)] at h1
    refine wx_iload_n (i := 1) dX9_down_10 rfl rfl ?_
    refine wx_iconst (v := 1) dX9_down_11 (by decide) ?_
    refine wx_isub dX9_down_12 ?_
    refine wx_iload_n (i := 0) dX9_down_13 rfl rfl ?_
    refine wx_isub dX9_down_14 ?_
    refine wx_iload_n (i := 1) dX9_down_15 rfl rfl ?_
    refine wx_idiv dX9_down_16 ?_ ?_
    · decide
    refine wx_ineg dX9_down_17 ?_
    refine wx_iret dX9_down_18 rfl rfl (Or.inl rfl) ?_
    refine zki hK ?_
    first
      | (rw [show zi x / 4 = zi (x.tdiv 4) from zi_div (k := 4) (by omega) (by decide)]
         have e1 := z_td4p (show 0 ≤ x by omega)
         exact congrArg zi (by omega))
      | (rw [zl_1, zl_4, zi_sub, zi_sub, show zi (4 - 1 - x) / zi 4 = zi ((4 - 1 - x).tdiv 4) from zi_div (k := 4) (by omega) (by decide), zi_neg]
         have e1 := z_td4p (x := 4 - 1 - x) (by omega)
         exact congrArg zi (by omega))
  · rw [zl_0, zi_lt (by omega) (by omega)] at h1
    refine wx_iload_n (i := 0) dX9_down_4 rfl rfl ?_
    refine wx_iload_n (i := 1) dX9_down_5 rfl rfl ?_
    refine wx_idiv dX9_down_6 ?_ ?_
    · decide
    refine wx_goto (tgt := 18) dX9_down_7 (by decide) ?_
    refine wx_iret dX9_down_18 rfl rfl (Or.inl rfl) ?_
    refine zki hK ?_
    first
      | (rw [show zi x / 4 = zi (x.tdiv 4) from zi_div (k := 4) (by omega) (by decide)]
         have e1 := z_td4p (show 0 ≤ x by omega)
         exact congrArg zi (by omega))
      | (rw [zl_1, zl_4, zi_sub, zi_sub, show zi (4 - 1 - x) / zi 4 = zi ((4 - 1 - x).tdiv 4) from zi_div (k := 4) (by omega) (by decide), zi_neg]
         have e1 := z_td4p (x := 4 - 1 - x) (by omega)
         exact congrArg zi (by omega))
theorem s_fd4 {d : Nat} {K : List Value → zS → Prop} {σ : zS} {s : Nat → Int} {a : Int} {k : Nat} (h : zBd s a) (hk : k < 8) (hK : K [.int (zi (zdf s a k))] σ) : wm d mJ9_floorDiv_7cf53 [.int (zi ((if k = 0 then a else s (k - 1)) + (if k + 1 < 8 then s (k + 1) else a) - 2 * s k)), .int 4] σ K :=
  s_J9_floorDiv_7cf53 (by have := zdf_rg h hk; omega) hK
theorem s_dn4 {d : Nat} {K : List Value → zS → Prop} {σ : zS} {s : Nat → Int} {a : Int} {k : Nat} (h : zBd s a) (hk : k < 8) (hK : K [.int (zi (zdf s a k))] σ) : wm d mX9_down [.int (zi ((if k = 0 then a else s (k - 1)) + (if k + 1 < 8 then s (k + 1) else a) - 2 * s k)), .int 4] σ K :=
  s_X9_down (by have := zdf_rg h hk; omega) hK
/-- whether one of the first i has moved -/
def zMv (s : Nat → Int) (a : Int) : Nat → Int32
  | 0 => 0
  | i + 1 => if zMv s a i = 0 then (if zdf s a i = 0 then 0 else 1) else 1
theorem zMv_01 (s : Nat → Int) (a : Int) : ∀ n, zMv s a n = 0 ∨ zMv s a n = 1
  | 0 => Or.inl rfl
  | n + 1 => by
    unfold zMv
    by_cases h : zMv s a n = 0
    · rw [if_pos h]
      by_cases g : zdf s a n = 0
      · exact Or.inl (if_pos g)
      · exact Or.inr (if_neg g)
    · exact Or.inr (if_neg h)
theorem zMv_0 {s : Nat → Int} {a : Int} : ∀ {n : Nat}, zMv s a n = 0 → ∀ j, j < n → zsh s a j = s j
  | 0, _, j, hj => absurd hj (Nat.not_lt_zero j)
  | n + 1, h, j, hj => by
    unfold zMv at h
    by_cases h1 : zMv s a n = 0
    · rw [if_pos h1] at h
      rcases Nat.lt_or_ge j n with w | w
      · exact zMv_0 h1 j w
      · rw [show j = n by omega]
        by_cases g : zdf s a n = 0
        · unfold zsh; rw [g]; omega
        · rw [if_neg g] at h; exact absurd h (by decide)
    · rw [if_neg h1] at h; exact absurd h (by decide)
theorem zMv_nar (s : Nat → Int) (a : Int) (n : Nat) : narrow .boolean (.int (zMv s a n)) = .int (zMv s a n) := by
  rcases zMv_01 s a n with h | h <;> rw [h] <;> rfl
/-- the cells behind a minute of row k -/
def zMi (mm : zM) (k : Nat) (s : Nat → Int) (a : Int) (i : Nat) : zM := va_up mm k (zCp (fun j => zi (zsh s a j)) (mm k) i)
theorem lp_minute {d : Nat} {K : List Value → zS → Prop} {mm : zM} {k : Nat} {s : Nat → Int} {a : Int} (hk : zK k = (10, 8)) (hk2 : k < 154) (hk3 : k ≠ 114) (hb : zBd s a) (hs : ∀ j, j < 8 → mm k j = zi (s j)) (ha : mm 114 2 = zi a) (hK : K [.int (zMv s a 8)] (zG (zMi mm k s a 8))) : ∀ c i : Nat, i + c = 8 → wx (d + 1) mX6_goOneMinute 10 [some (.ref 114), some (.ref k), some (.int (zMv s a i)), some (.int (zi (if i = 0 then a else s (i - 1)))), some (.int (nI i)), none, none, none] [] (zG (zMi mm k s a i)) K := by
  intro c
  induction c with
  | zero =>
    intro i hi
    have hin : i = 8 := by omega
    subst hin
    refine wx_iload dX6_goOneMinute_10 rfl ?_
    refine wx_bipush (v := 8) dX6_goOneMinute_12 (by decide) ?_
    refine wx_icmp_ge (tgt := 95) dX6_goOneMinute_14 (by decide) (fun h14 => ?_) (fun h14 => ?_)
    · skip
      refine wx_iload_n (i := 2) dX6_goOneMinute_95 rfl rfl ?_
      refine wx_iret dX6_goOneMinute_96 rfl (zMv_nar s a 8) (Or.inl rfl) ?_
      exact hK
    · exact absurd (show nI 8 ≤ nI 8 from nI_le (by omega) (by omega)) h14 --end
  | succ c ih =>
    intro i hi
    have hi8 : i < 8 := by omega
    have eI : zMi mm k s a i k i = zi (s i) := by
      simp only [zMi, va_up, if_true, zCp]
      rw [if_neg (by omega)]; exact hs i hi8
    have eN : i + 1 < 8 → zMi mm k s a i k (i + 1) = zi (s (i + 1)) := fun h => by
      simp only [zMi, va_up, if_true, zCp]
      rw [if_neg (by omega)]; exact hs (i + 1) h
    have eA : zMi mm k s a i 114 2 = zi a := by
      simp only [zMi, va_up]
      rw [if_neg (Ne.symm hk3)]; exact ha
    have e := ih (i + 1) (by omega)
    refine wx_iload dX6_goOneMinute_10 rfl ?_
    refine wx_bipush (v := 8) dX6_goOneMinute_12 (by decide) ?_
    refine wx_icmp_ge (tgt := 95) dX6_goOneMinute_14 (by decide) (fun h14 => ?_) (fun h14 => ?_)
    · exact absurd (show nI 8 ≤ nI i from h14) (nI_ge (by omega) (by omega)) --end
    · skip
      refine wx_aload_n (i := 1) dX6_goOneMinute_17 rfl rfl ?_
      refine wx_iload dX6_goOneMinute_18 rfl ?_
      refine wx_ialdG dX6_goOneMinute_20 hk hk2 rfl ?_ ?_
      · exact ⟨hi8, by decide⟩
      refine wx_istore dX6_goOneMinute_21 (Nat.le_of_ble_eq_true rfl) rfl ?_
      refine wx_iload dX6_goOneMinute_23 rfl ?_
      refine wx_iconst (v := 1) dX6_goOneMinute_25 (by decide) ?_
      refine wx_iadd dX6_goOneMinute_26 ?_
      refine wx_bipush (v := 8) dX6_goOneMinute_27 (by decide) ?_
      refine wx_icmp_ge (tgt := 41) dX6_goOneMinute_29 (by decide) (fun h29 => ?_) (fun h29 => ?_)
      · have hlt : ¬ i + 1 < 8 := fun q => nI_ge (by omega) (by decide) (by rw [nI_1] at h29; exact h29 : nI 8 ≤ nI (i + 1))
        refine wx_aload_n (i := 0) dX6_goOneMinute_41 rfl rfl ?_
        refine wx_getIG (k := 114) dX6_goOneMinute_42 zF_X6_18 zKo_114 rfl (Nat.le_of_ble_eq_true rfl) ?_
        refine wx_istore dX6_goOneMinute_45 (Nat.le_of_ble_eq_true rfl) rfl ?_
        refine wx_iload_n (i := 3) dX6_goOneMinute_47 rfl rfl ?_
        refine wx_iload dX6_goOneMinute_48 rfl ?_
        refine wx_iadd dX6_goOneMinute_50 ?_
        refine wx_iconst (v := 2) dX6_goOneMinute_51 (by decide) ?_
        refine wx_iload dX6_goOneMinute_52 rfl ?_
        refine wx_imul dX6_goOneMinute_54 ?_
        refine wx_isub dX6_goOneMinute_55 ?_
        refine wx_iconst (v := 4) dX6_goOneMinute_56 (by decide) ?_
        refine wx_S2 dX6_goOneMinute_57 zPS_J9_floorDiv_7cf53 zLk_X6_43 (Nat.le_of_ble_eq_true rfl) (Or.inr rfl) ?_
        first
          | rw [eI, eN hlt, zl_2, zi_mul, zi_add, zi_sub, show s (i + 1) = (if i + 1 < 8 then s (i + 1) else a) from (if_pos hlt).symm]
          | rw [eI, eA, zl_2, zi_mul, zi_add, zi_sub, show (if i = 0 then a else s (i - 1)) + a - 2 * s i = (if i = 0 then a else s (i - 1)) + (if i + 1 < 8 then s (i + 1) else a) - 2 * s i from by rw [if_neg hlt]]
        refine s_fd4 hb hi8 ?_
        refine wx_r1 ?_
        refine wx_istore dX6_goOneMinute_60 (Nat.le_of_ble_eq_true rfl) rfl ?_
        refine wx_aload_n (i := 1) dX6_goOneMinute_62 rfl rfl ?_
        refine wx_iload dX6_goOneMinute_63 rfl ?_
        refine wx_iload dX6_goOneMinute_65 rfl ?_
        refine wx_iload dX6_goOneMinute_67 rfl ?_
        refine wx_iadd dX6_goOneMinute_69 ?_
        refine wx_iastG dX6_goOneMinute_70 hk hk2 rfl ?_ ?_
        · exact ⟨hi8, by decide⟩
        refine wx_iload_n (i := 2) dX6_goOneMinute_71 rfl rfl ?_
        refine wx_if_ne (tgt := 80) dX6_goOneMinute_72 (by decide) (fun h72 => ?_) (fun h72 => ?_)
        · skip
          refine wx_iconst (v := 1) dX6_goOneMinute_80 (by decide) ?_
          refine wx_goto (tgt := 85) dX6_goOneMinute_81 (by decide) ?_
          refine wx_istore_n (i := 2) dX6_goOneMinute_85 rfl (Nat.le_of_ble_eq_true rfl) rfl ?_
          refine wx_iload dX6_goOneMinute_86 rfl ?_
          refine wx_istore_n (i := 3) dX6_goOneMinute_88 rfl (Nat.le_of_ble_eq_true rfl) rfl ?_
          refine wx_inc (c := 1) dX6_goOneMinute_89 rfl (by decide) (Nat.le_of_ble_eq_true rfl) rfl ?_
          refine wx_goto (tgt := 10) dX6_goOneMinute_92 (by decide) ?_
          refine wx_weak 5 ?_
          refine wx_weak 6 ?_
          refine wx_weak 7 ?_
          rw [nI_1, zi_add, show zU (zMi mm k s a i) k i (zi (s i + zdf s a i)) = zMi mm k s a (i + 1) from zCp_succ mm k i (fun j => zi (zsh s a j))]
          rw [if_neg (Nat.succ_ne_zero i), Nat.add_sub_cancel] at e
          have hd0 : zdf s a i = 0 ↔ zi (zdf s a i) = 0 := by rw [zl_0, zi_eq (by have := zdf_rg hb hi8; unfold zdf; omega) (by omega)]
          first
            | (rw [show zMv s a (i + 1) = 1 from if_neg h72] at e; exact e)
            | (rw [show zMv s a (i + 1) = 1 from (if_pos h72).trans (if_neg (fun q => h77 (hd0.mp q)))] at e; exact e)
            | (rw [show zMv s a (i + 1) = 0 from (if_pos h72).trans (if_pos (hd0.mpr h77))] at e; exact e)
        · skip
          refine wx_iload dX6_goOneMinute_75 rfl ?_
          refine wx_if_eq (tgt := 84) dX6_goOneMinute_77 (by decide) (fun h77 => ?_) (fun h77 => ?_)
          · skip
            refine wx_iconst (v := 0) dX6_goOneMinute_84 (by decide) ?_
            refine wx_istore_n (i := 2) dX6_goOneMinute_85 rfl (Nat.le_of_ble_eq_true rfl) rfl ?_
            refine wx_iload dX6_goOneMinute_86 rfl ?_
            refine wx_istore_n (i := 3) dX6_goOneMinute_88 rfl (Nat.le_of_ble_eq_true rfl) rfl ?_
            refine wx_inc (c := 1) dX6_goOneMinute_89 rfl (by decide) (Nat.le_of_ble_eq_true rfl) rfl ?_
            refine wx_goto (tgt := 10) dX6_goOneMinute_92 (by decide) ?_
            refine wx_weak 5 ?_
            refine wx_weak 6 ?_
            refine wx_weak 7 ?_
            rw [nI_1, zi_add, show zU (zMi mm k s a i) k i (zi (s i + zdf s a i)) = zMi mm k s a (i + 1) from zCp_succ mm k i (fun j => zi (zsh s a j))]
            rw [if_neg (Nat.succ_ne_zero i), Nat.add_sub_cancel] at e
            have hd0 : zdf s a i = 0 ↔ zi (zdf s a i) = 0 := by rw [zl_0, zi_eq (by have := zdf_rg hb hi8; unfold zdf; omega) (by omega)]
            first
              | (rw [show zMv s a (i + 1) = 1 from if_neg h72] at e; exact e)
              | (rw [show zMv s a (i + 1) = 1 from (if_pos h72).trans (if_neg (fun q => h77 (hd0.mp q)))] at e; exact e)
              | (rw [show zMv s a (i + 1) = 0 from (if_pos h72).trans (if_pos (hd0.mpr h77))] at e; exact e)
          · skip
            refine wx_iconst (v := 1) dX6_goOneMinute_80 (by decide) ?_
            refine wx_goto (tgt := 85) dX6_goOneMinute_81 (by decide) ?_
            refine wx_istore_n (i := 2) dX6_goOneMinute_85 rfl (Nat.le_of_ble_eq_true rfl) rfl ?_
            refine wx_iload dX6_goOneMinute_86 rfl ?_
            refine wx_istore_n (i := 3) dX6_goOneMinute_88 rfl (Nat.le_of_ble_eq_true rfl) rfl ?_
            refine wx_inc (c := 1) dX6_goOneMinute_89 rfl (by decide) (Nat.le_of_ble_eq_true rfl) rfl ?_
            refine wx_goto (tgt := 10) dX6_goOneMinute_92 (by decide) ?_
            refine wx_weak 5 ?_
            refine wx_weak 6 ?_
            refine wx_weak 7 ?_
            rw [nI_1, zi_add, show zU (zMi mm k s a i) k i (zi (s i + zdf s a i)) = zMi mm k s a (i + 1) from zCp_succ mm k i (fun j => zi (zsh s a j))]
            rw [if_neg (Nat.succ_ne_zero i), Nat.add_sub_cancel] at e
            have hd0 : zdf s a i = 0 ↔ zi (zdf s a i) = 0 := by rw [zl_0, zi_eq (by have := zdf_rg hb hi8; unfold zdf; omega) (by omega)]
            first
              | (rw [show zMv s a (i + 1) = 1 from if_neg h72] at e; exact e)
              | (rw [show zMv s a (i + 1) = 1 from (if_pos h72).trans (if_neg (fun q => h77 (hd0.mp q)))] at e; exact e)
              | (rw [show zMv s a (i + 1) = 0 from (if_pos h72).trans (if_pos (hd0.mpr h77))] at e; exact e)
      · have hlt : i + 1 < 8 := by
          rcases Nat.lt_or_ge (i + 1) 8 with q | q
          · exact q
          · exact absurd (show (8 : Int32) ≤ nI i + 1 by rw [nI_1]; exact nI_le (a := 8) q (by omega)) h29
        refine wx_aload_n (i := 1) dX6_goOneMinute_32 rfl rfl ?_
        refine wx_iload dX6_goOneMinute_33 rfl ?_
        refine wx_iconst (v := 1) dX6_goOneMinute_35 (by decide) ?_
        refine wx_iadd dX6_goOneMinute_36 ?_
        refine wx_ialdG (j := i + 1) dX6_goOneMinute_37 hk hk2 ?_ ?_ ?_
        · exact nI_1 i
        · exact ⟨hlt, by decide⟩
        refine wx_goto (tgt := 45) dX6_goOneMinute_38 (by decide) ?_
        refine wx_istore dX6_goOneMinute_45 (Nat.le_of_ble_eq_true rfl) rfl ?_
        refine wx_iload_n (i := 3) dX6_goOneMinute_47 rfl rfl ?_
        refine wx_iload dX6_goOneMinute_48 rfl ?_
        refine wx_iadd dX6_goOneMinute_50 ?_
        refine wx_iconst (v := 2) dX6_goOneMinute_51 (by decide) ?_
        refine wx_iload dX6_goOneMinute_52 rfl ?_
        refine wx_imul dX6_goOneMinute_54 ?_
        refine wx_isub dX6_goOneMinute_55 ?_
        refine wx_iconst (v := 4) dX6_goOneMinute_56 (by decide) ?_
        refine wx_S2 dX6_goOneMinute_57 zPS_J9_floorDiv_7cf53 zLk_X6_43 (Nat.le_of_ble_eq_true rfl) (Or.inr rfl) ?_
        first
          | rw [eI, eN hlt, zl_2, zi_mul, zi_add, zi_sub, show s (i + 1) = (if i + 1 < 8 then s (i + 1) else a) from (if_pos hlt).symm]
          | rw [eI, eA, zl_2, zi_mul, zi_add, zi_sub, show (if i = 0 then a else s (i - 1)) + a - 2 * s i = (if i = 0 then a else s (i - 1)) + (if i + 1 < 8 then s (i + 1) else a) - 2 * s i from by rw [if_neg hlt]]
        refine s_fd4 hb hi8 ?_
        refine wx_r1 ?_
        refine wx_istore dX6_goOneMinute_60 (Nat.le_of_ble_eq_true rfl) rfl ?_
        refine wx_aload_n (i := 1) dX6_goOneMinute_62 rfl rfl ?_
        refine wx_iload dX6_goOneMinute_63 rfl ?_
        refine wx_iload dX6_goOneMinute_65 rfl ?_
        refine wx_iload dX6_goOneMinute_67 rfl ?_
        refine wx_iadd dX6_goOneMinute_69 ?_
        refine wx_iastG dX6_goOneMinute_70 hk hk2 rfl ?_ ?_
        · exact ⟨hi8, by decide⟩
        refine wx_iload_n (i := 2) dX6_goOneMinute_71 rfl rfl ?_
        refine wx_if_ne (tgt := 80) dX6_goOneMinute_72 (by decide) (fun h72 => ?_) (fun h72 => ?_)
        · skip
          refine wx_iconst (v := 1) dX6_goOneMinute_80 (by decide) ?_
          refine wx_goto (tgt := 85) dX6_goOneMinute_81 (by decide) ?_
          refine wx_istore_n (i := 2) dX6_goOneMinute_85 rfl (Nat.le_of_ble_eq_true rfl) rfl ?_
          refine wx_iload dX6_goOneMinute_86 rfl ?_
          refine wx_istore_n (i := 3) dX6_goOneMinute_88 rfl (Nat.le_of_ble_eq_true rfl) rfl ?_
          refine wx_inc (c := 1) dX6_goOneMinute_89 rfl (by decide) (Nat.le_of_ble_eq_true rfl) rfl ?_
          refine wx_goto (tgt := 10) dX6_goOneMinute_92 (by decide) ?_
          refine wx_weak 5 ?_
          refine wx_weak 6 ?_
          refine wx_weak 7 ?_
          rw [nI_1, zi_add, show zU (zMi mm k s a i) k i (zi (s i + zdf s a i)) = zMi mm k s a (i + 1) from zCp_succ mm k i (fun j => zi (zsh s a j))]
          rw [if_neg (Nat.succ_ne_zero i), Nat.add_sub_cancel] at e
          have hd0 : zdf s a i = 0 ↔ zi (zdf s a i) = 0 := by rw [zl_0, zi_eq (by have := zdf_rg hb hi8; unfold zdf; omega) (by omega)]
          first
            | (rw [show zMv s a (i + 1) = 1 from if_neg h72] at e; exact e)
            | (rw [show zMv s a (i + 1) = 1 from (if_pos h72).trans (if_neg (fun q => h77 (hd0.mp q)))] at e; exact e)
            | (rw [show zMv s a (i + 1) = 0 from (if_pos h72).trans (if_pos (hd0.mpr h77))] at e; exact e)
        · skip
          refine wx_iload dX6_goOneMinute_75 rfl ?_
          refine wx_if_eq (tgt := 84) dX6_goOneMinute_77 (by decide) (fun h77 => ?_) (fun h77 => ?_)
          · skip
            refine wx_iconst (v := 0) dX6_goOneMinute_84 (by decide) ?_
            refine wx_istore_n (i := 2) dX6_goOneMinute_85 rfl (Nat.le_of_ble_eq_true rfl) rfl ?_
            refine wx_iload dX6_goOneMinute_86 rfl ?_
            refine wx_istore_n (i := 3) dX6_goOneMinute_88 rfl (Nat.le_of_ble_eq_true rfl) rfl ?_
            refine wx_inc (c := 1) dX6_goOneMinute_89 rfl (by decide) (Nat.le_of_ble_eq_true rfl) rfl ?_
            refine wx_goto (tgt := 10) dX6_goOneMinute_92 (by decide) ?_
            refine wx_weak 5 ?_
            refine wx_weak 6 ?_
            refine wx_weak 7 ?_
            rw [nI_1, zi_add, show zU (zMi mm k s a i) k i (zi (s i + zdf s a i)) = zMi mm k s a (i + 1) from zCp_succ mm k i (fun j => zi (zsh s a j))]
            rw [if_neg (Nat.succ_ne_zero i), Nat.add_sub_cancel] at e
            have hd0 : zdf s a i = 0 ↔ zi (zdf s a i) = 0 := by rw [zl_0, zi_eq (by have := zdf_rg hb hi8; unfold zdf; omega) (by omega)]
            first
              | (rw [show zMv s a (i + 1) = 1 from if_neg h72] at e; exact e)
              | (rw [show zMv s a (i + 1) = 1 from (if_pos h72).trans (if_neg (fun q => h77 (hd0.mp q)))] at e; exact e)
              | (rw [show zMv s a (i + 1) = 0 from (if_pos h72).trans (if_pos (hd0.mpr h77))] at e; exact e)
          · skip
            refine wx_iconst (v := 1) dX6_goOneMinute_80 (by decide) ?_
            refine wx_goto (tgt := 85) dX6_goOneMinute_81 (by decide) ?_
            refine wx_istore_n (i := 2) dX6_goOneMinute_85 rfl (Nat.le_of_ble_eq_true rfl) rfl ?_
            refine wx_iload dX6_goOneMinute_86 rfl ?_
            refine wx_istore_n (i := 3) dX6_goOneMinute_88 rfl (Nat.le_of_ble_eq_true rfl) rfl ?_
            refine wx_inc (c := 1) dX6_goOneMinute_89 rfl (by decide) (Nat.le_of_ble_eq_true rfl) rfl ?_
            refine wx_goto (tgt := 10) dX6_goOneMinute_92 (by decide) ?_
            refine wx_weak 5 ?_
            refine wx_weak 6 ?_
            refine wx_weak 7 ?_
            rw [nI_1, zi_add, show zU (zMi mm k s a i) k i (zi (s i + zdf s a i)) = zMi mm k s a (i + 1) from zCp_succ mm k i (fun j => zi (zsh s a j))]
            rw [if_neg (Nat.succ_ne_zero i), Nat.add_sub_cancel] at e
            have hd0 : zdf s a i = 0 ↔ zi (zdf s a i) = 0 := by rw [zl_0, zi_eq (by have := zdf_rg hb hi8; unfold zdf; omega) (by omega)]
            first
              | (rw [show zMv s a (i + 1) = 1 from if_neg h72] at e; exact e)
              | (rw [show zMv s a (i + 1) = 1 from (if_pos h72).trans (if_neg (fun q => h77 (hd0.mp q)))] at e; exact e)
              | (rw [show zMv s a (i + 1) = 0 from (if_pos h72).trans (if_pos (hd0.mpr h77))] at e; exact e)
theorem s_X6_goOneMinute {d : Nat} {K : List Value → zS → Prop} {mm : zM} {k : Nat} {s : Nat → Int} {a : Int} (hk : zK k = (10, 8)) (hk2 : k < 154) (hk3 : k ≠ 114) (hb : zBd s a) (hs : ∀ j, j < 8 → mm k j = zi (s j)) (ha : mm 114 2 = zi a) (hK : K [.int (zMv s a 8)] (zG (zMi mm k s a 8))) : wm (d + 1) mX6_goOneMinute [.ref 114, .ref k] (zG mm) K := by
  refine wm_of2 (L0 := [some (.ref 114), some (.ref k), none, none, none, none, none, none]) zCm_X6_goOneMinute (Or.inl rfl) (Nat.le_of_ble_eq_true rfl) rfl ?_
  refine wx_iconst (v := 0) dX6_goOneMinute_0 (by decide) ?_
  refine wx_istore_n (i := 2) dX6_goOneMinute_1 rfl (Nat.le_of_ble_eq_true rfl) rfl ?_
  refine wx_aload_n (i := 0) dX6_goOneMinute_2 rfl rfl ?_
  refine wx_getIG (k := 114) dX6_goOneMinute_3 zF_X6_18 zKo_114 rfl (Nat.le_of_ble_eq_true rfl) ?_
  refine wx_istore_n (i := 3) dX6_goOneMinute_6 rfl (Nat.le_of_ble_eq_true rfl) rfl ?_
  refine wx_iconst (v := 0) dX6_goOneMinute_7 (by decide) ?_
  refine wx_istore dX6_goOneMinute_8 (Nat.le_of_ble_eq_true rfl) rfl ?_
  rw [ha]
  have h := lp_minute (d := d) hk hk2 hk3 hb hs ha hK 8 0 (by omega)
  rw [show zMi mm k s a 0 = mm from zCp_up0 _ _ _] at h
  exact h
theorem zMx_bd {f : Nat → Int} {o : Int} {n : Nat} (h1 : ∀ j, j < n → -100000 ≤ f j ∧ f j ≤ 100000) (h2 : -100000 ≤ o ∧ o ≤ 100000) : -100000 ≤ zMx f o n ∧ zMx f o n ≤ 100000 := by
  rcases (zMx_spec f o n).2 with h | ⟨j, hj, h⟩
  · rw [h]; exact h2
  · rw [h]; exact h1 j hj
theorem zMn_bd {f : Nat → Int} {o : Int} {n : Nat} (h1 : ∀ j, j < n → -100000 ≤ f j ∧ f j ≤ 100000) (h2 : -100000 ≤ o ∧ o ≤ 100000) : -100000 ≤ zMn f o n ∧ zMn f o n ≤ 100000 := by
  rcases (zMn_spec f o n).2 with h | ⟨j, hj, h⟩
  · rw [h]; exact h2
  · rw [h]; exact h1 j hj
theorem lp_X6_greatest {d : Nat} {K : List Value → zS → Prop} {mm : zM} {k : Nat} {s : Nat → Int} {o : Int} (hk : zK k = (10, 8)) (hk2 : k < 154) (hb : ∀ j, j < 8 → -100000 ≤ s j ∧ s j ≤ 100000) (ho : -100000 ≤ o ∧ o ≤ 100000) (hs : ∀ j, j < 8 → mm k j = zi (s j)) (hK : K [.int (zi (zMx s o 8))] (zG mm)) : ∀ c i : Nat, i + c = 8 → wx (d + 1) mX6_greatest 11 [some (.ref k), some (.int (zi o)), some (.int (zi (zMx s o i))), some (.ref k), some (.int (nI 8)), some (.int (nI i)), none] [] (zG mm) K := by
  intro c
  induction c with
  | zero =>
    intro i hi 
    refine wx_iload dX6_greatest_11 rfl ?_
    refine wx_iload dX6_greatest_13 rfl ?_
    refine wx_icmp_ge (tgt := 37) dX6_greatest_15 (by decide) (fun h15 => ?_) (fun h15 => ?_)
    · skip
      have hin : i = 8 := by omega
      subst hin
      refine wx_iload_n (i := 2) dX6_greatest_37 rfl rfl ?_
      refine wx_iret dX6_greatest_38 rfl rfl (Or.inl rfl) ?_
      exact hK
    · exact absurd (nI_le (by omega) (by omega)) h15 --end
  | succ c ih =>
    intro i hi 
    refine wx_iload dX6_greatest_11 rfl ?_
    refine wx_iload dX6_greatest_13 rfl ?_
    refine wx_icmp_ge (tgt := 37) dX6_greatest_15 (by decide) (fun h15 => ?_) (fun h15 => ?_)
    · exact absurd h15 (nI_ge (by omega) (by omega)) --end
    · skip
      refine wx_aload_n (i := 3) dX6_greatest_18 rfl rfl ?_
      refine wx_iload dX6_greatest_19 rfl ?_
      refine wx_ialdG dX6_greatest_21 hk hk2 rfl ?_ ?_
      · exact ⟨by omega, by decide⟩
      refine wx_istore dX6_greatest_22 (Nat.le_of_ble_eq_true rfl) rfl ?_
      refine wx_iload_n (i := 2) dX6_greatest_24 rfl rfl ?_
      refine wx_iload dX6_greatest_25 rfl ?_
      refine wx_S2 dX6_greatest_27 zPS_J9_max_7cf53 zLk_X6_49 (Nat.le_of_ble_eq_true rfl) (Or.inr rfl) ?_
      rw [hs i (by omega)]
      refine s_J9_max_7cf53 _ _ ?_
      refine wx_r1 ?_
      refine wx_istore_n (i := 2) dX6_greatest_30 rfl (Nat.le_of_ble_eq_true rfl) rfl ?_
      refine wx_inc (c := 1) dX6_greatest_31 rfl (by decide) (Nat.le_of_ble_eq_true rfl) rfl ?_
      refine wx_goto (tgt := 11) dX6_greatest_34 (by decide) ?_
      refine wx_weak 6 ?_
      rw [nI_1]
      have e := ih (i + 1) (by omega)
      have hbi := zMx_bd (f := s) (o := o) (n := i) (fun j hj => hb j (by omega)) ho
      have hsi := hb i (by omega)
      rw [show zMx s o (i + 1) = if s i ≤ zMx s o i then zMx s o i else s i from rfl] at e
      by_cases hq : s i ≤ zMx s o i
      · rw [if_pos hq] at e
        rw [if_pos (by rw [zi_le (by omega) (by omega)]; exact hq)]
        exact e
      · rw [if_neg hq] at e
        rw [if_neg (by rw [zi_le (by omega) (by omega)]; exact hq)]
        exact e
theorem s_X6_greatest {d : Nat} {K : List Value → zS → Prop} {mm : zM} {k : Nat} {s : Nat → Int} {o : Int} (hk : zK k = (10, 8)) (hk2 : k < 154) (hb : ∀ j, j < 8 → -100000 ≤ s j ∧ s j ≤ 100000) (ho : -100000 ≤ o ∧ o ≤ 100000) (hs : ∀ j, j < 8 → mm k j = zi (s j)) (hK : K [.int (zi (zMx s o 8))] (zG mm)) : wm (d + 1) mX6_greatest [.ref k, .int (zi o)] (zG mm) K := by
  refine wm_of2 (L0 := [some (.ref k), some (.int (zi o)), none, none, none, none, none]) zCm_X6_greatest (Or.inl rfl) (Nat.le_of_ble_eq_true rfl) rfl ?_
  refine wx_iload_n (i := 1) dX6_greatest_0 rfl rfl ?_
  refine wx_istore_n (i := 2) dX6_greatest_1 rfl (Nat.le_of_ble_eq_true rfl) rfl ?_
  refine wx_aload_n (i := 0) dX6_greatest_2 rfl rfl ?_
  refine wx_astore_n (i := 3) dX6_greatest_3 rfl (Nat.le_of_ble_eq_true rfl) rfl ?_
  refine wx_aload_n (i := 3) dX6_greatest_4 rfl rfl ?_
  refine wx_alen dX6_greatest_5 hk hk2 ?_
  refine wx_istore dX6_greatest_6 (Nat.le_of_ble_eq_true rfl) rfl ?_
  refine wx_iconst (v := 0) dX6_greatest_8 (by decide) ?_
  refine wx_istore dX6_greatest_9 (Nat.le_of_ble_eq_true rfl) rfl ?_
  exact lp_X6_greatest hk hk2 hb ho hs hK 8 0 (by omega)
theorem lp_X6_least {d : Nat} {K : List Value → zS → Prop} {mm : zM} {k : Nat} {s : Nat → Int} {o : Int} (hk : zK k = (10, 8)) (hk2 : k < 154) (hb : ∀ j, j < 8 → -100000 ≤ s j ∧ s j ≤ 100000) (ho : -100000 ≤ o ∧ o ≤ 100000) (hs : ∀ j, j < 8 → mm k j = zi (s j)) (hK : K [.int (zi (zMn s o 8))] (zG mm)) : ∀ c i : Nat, i + c = 8 → wx (d + 1) mX6_least 11 [some (.ref k), some (.int (zi o)), some (.int (zi (zMn s o i))), some (.ref k), some (.int (nI 8)), some (.int (nI i)), none] [] (zG mm) K := by
  intro c
  induction c with
  | zero =>
    intro i hi 
    refine wx_iload dX6_least_11 rfl ?_
    refine wx_iload dX6_least_13 rfl ?_
    refine wx_icmp_ge (tgt := 37) dX6_least_15 (by decide) (fun h15 => ?_) (fun h15 => ?_)
    · skip
      have hin : i = 8 := by omega
      subst hin
      refine wx_iload_n (i := 2) dX6_least_37 rfl rfl ?_
      refine wx_iret dX6_least_38 rfl rfl (Or.inl rfl) ?_
      exact hK
    · exact absurd (nI_le (by omega) (by omega)) h15 --end
  | succ c ih =>
    intro i hi 
    refine wx_iload dX6_least_11 rfl ?_
    refine wx_iload dX6_least_13 rfl ?_
    refine wx_icmp_ge (tgt := 37) dX6_least_15 (by decide) (fun h15 => ?_) (fun h15 => ?_)
    · exact absurd h15 (nI_ge (by omega) (by omega)) --end
    · skip
      refine wx_aload_n (i := 3) dX6_least_18 rfl rfl ?_
      refine wx_iload dX6_least_19 rfl ?_
      refine wx_ialdG dX6_least_21 hk hk2 rfl ?_ ?_
      · exact ⟨by omega, by decide⟩
      refine wx_istore dX6_least_22 (Nat.le_of_ble_eq_true rfl) rfl ?_
      refine wx_iload_n (i := 2) dX6_least_24 rfl rfl ?_
      refine wx_iload dX6_least_25 rfl ?_
      refine wx_S2 dX6_least_27 zPS_J9_min_7cf53 zLk_X6_52 (Nat.le_of_ble_eq_true rfl) (Or.inr rfl) ?_
      rw [hs i (by omega)]
      refine s_J9_min_7cf53 _ _ ?_
      refine wx_r1 ?_
      refine wx_istore_n (i := 2) dX6_least_30 rfl (Nat.le_of_ble_eq_true rfl) rfl ?_
      refine wx_inc (c := 1) dX6_least_31 rfl (by decide) (Nat.le_of_ble_eq_true rfl) rfl ?_
      refine wx_goto (tgt := 11) dX6_least_34 (by decide) ?_
      refine wx_weak 6 ?_
      rw [nI_1]
      have e := ih (i + 1) (by omega)
      have hbi := zMn_bd (f := s) (o := o) (n := i) (fun j hj => hb j (by omega)) ho
      have hsi := hb i (by omega)
      rw [show zMn s o (i + 1) = if zMn s o i ≤ s i then zMn s o i else s i from rfl] at e
      by_cases hq : zMn s o i ≤ s i
      · rw [if_pos hq] at e
        rw [if_pos (by rw [zi_le (by omega) (by omega)]; exact hq)]
        exact e
      · rw [if_neg hq] at e
        rw [if_neg (by rw [zi_le (by omega) (by omega)]; exact hq)]
        exact e
theorem s_X6_least {d : Nat} {K : List Value → zS → Prop} {mm : zM} {k : Nat} {s : Nat → Int} {o : Int} (hk : zK k = (10, 8)) (hk2 : k < 154) (hb : ∀ j, j < 8 → -100000 ≤ s j ∧ s j ≤ 100000) (ho : -100000 ≤ o ∧ o ≤ 100000) (hs : ∀ j, j < 8 → mm k j = zi (s j)) (hK : K [.int (zi (zMn s o 8))] (zG mm)) : wm (d + 1) mX6_least [.ref k, .int (zi o)] (zG mm) K := by
  refine wm_of2 (L0 := [some (.ref k), some (.int (zi o)), none, none, none, none, none]) zCm_X6_least (Or.inl rfl) (Nat.le_of_ble_eq_true rfl) rfl ?_
  refine wx_iload_n (i := 1) dX6_least_0 rfl rfl ?_
  refine wx_istore_n (i := 2) dX6_least_1 rfl (Nat.le_of_ble_eq_true rfl) rfl ?_
  refine wx_aload_n (i := 0) dX6_least_2 rfl rfl ?_
  refine wx_astore_n (i := 3) dX6_least_3 rfl (Nat.le_of_ble_eq_true rfl) rfl ?_
  refine wx_aload_n (i := 3) dX6_least_4 rfl rfl ?_
  refine wx_alen dX6_least_5 hk hk2 ?_
  refine wx_istore dX6_least_6 (Nat.le_of_ble_eq_true rfl) rfl ?_
  refine wx_iconst (v := 0) dX6_least_8 (by decide) ?_
  refine wx_istore dX6_least_9 (Nat.le_of_ble_eq_true rfl) rfl ?_
  exact lp_X6_least hk hk2 hb ho hs hK 8 0 (by omega)
theorem s_X6_warmthOf {d : Nat} {K : List Value → zS → Prop} {mm : zM} {z : Nat} (hz : z < 8) (hK : K [.int (mm 115 z)] (zG mm)) : wm (d) mX6_warmthOf [.ref 114, .int (nI z)] (zG mm) K := by
  refine wm_of2 (L0 := [some (.ref 114), some (.int (nI z))]) zCm_X6_warmthOf (Or.inl rfl) (Nat.le_of_ble_eq_true rfl) rfl ?_
  refine wx_iload_n (i := 1) dX6_warmthOf_0 rfl rfl ?_
  refine wx_bipush (v := 8) dX6_warmthOf_1 (by decide) ?_
  refine wx_icmp_ne (tgt := 13) dX6_warmthOf_3 (by decide) (fun h3 => ?_) (fun h3 => ?_)
  · skip
    refine wx_aload_n (i := 0) dX6_warmthOf_13 rfl rfl ?_
    refine wx_getRG (k := 114) (t := 115) dX6_warmthOf_14 zF_X6_9 zKo_114 rfl (Nat.le_of_ble_eq_true rfl) zRf_114_0 ?_
    refine wx_iload_n (i := 1) dX6_warmthOf_17 rfl rfl ?_
    refine wx_ialdG (k := 115) dX6_warmthOf_18 zK_115 (Nat.le_of_ble_eq_true rfl) rfl ?_ ?_
    · exact ⟨hz, by decide⟩
    refine wx_iret dX6_warmthOf_19 rfl rfl (Or.inl rfl) ?_
    exact hK
  · exact absurd (show nI z = nI 8 from h3) (by rw [nI_eq (by omega) (by decide)]; omega) --end
theorem s_X6_warmthOf_a {d : Nat} {K : List Value → zS → Prop} {mm : zM} (hK : K [.int (mm 114 2)] (zG mm)) : wm (d) mX6_warmthOf [.ref 114, .int 8] (zG mm) K := by
  refine wm_of2 (L0 := [some (.ref 114), some (.int 8)]) zCm_X6_warmthOf (Or.inl rfl) (Nat.le_of_ble_eq_true rfl) rfl ?_
  refine wx_iload_n (i := 1) dX6_warmthOf_0 rfl rfl ?_
  refine wx_bipush (v := 8) dX6_warmthOf_1 (by decide) ?_
  refine wx_icmp_ne (tgt := 13) dX6_warmthOf_3 (by decide) (fun h3 => ?_) (fun h3 => ?_)
  · exact absurd rfl h3 --end
  · skip
    refine wx_aload_n (i := 0) dX6_warmthOf_6 rfl rfl ?_
    refine wx_getIG (k := 114) dX6_warmthOf_7 zF_X6_18 zKo_114 rfl (Nat.le_of_ble_eq_true rfl) ?_
    refine wx_goto (tgt := 19) dX6_warmthOf_10 (by decide) ?_
    refine wx_iret dX6_warmthOf_19 rfl rfl (Or.inl rfl) ?_
    exact hK
theorem s_X6_tellWarmth {d : Nat} {K : List Value → zS → Prop} {mm : zM} {z : Nat} {v : Int32} (hz : z < 8) (hK : K [.int (mm 115 z)] (zG (zU mm 115 z v))) : wm (d + 1) mX6_tellWarmth [.ref 114, .int (nI z), .int v] (zG mm) K := by
  refine wm_of2 (L0 := [some (.ref 114), some (.int (nI z)), some (.int v), none]) zCm_X6_tellWarmth (Or.inl rfl) (Nat.le_of_ble_eq_true rfl) rfl ?_
  refine wx_aload_n (i := 0) dX6_tellWarmth_0 rfl rfl ?_
  refine wx_iload_n (i := 1) dX6_tellWarmth_1 rfl rfl ?_
  refine wx_V1 dX6_tellWarmth_2 zPV_X6_warmthOf zLk_X6_22 rfl (Nat.le_of_ble_eq_true rfl) (Nat.le_of_ble_eq_true rfl) (Or.inr rfl) ?_
  refine s_X6_warmthOf hz ?_
  refine wx_r1 ?_
  refine wx_istore_n (i := 3) dX6_tellWarmth_5 rfl (Nat.le_of_ble_eq_true rfl) rfl ?_
  refine wx_iload_n (i := 1) dX6_tellWarmth_6 rfl rfl ?_
  refine wx_bipush (v := 8) dX6_tellWarmth_7 (by decide) ?_
  refine wx_icmp_ne (tgt := 20) dX6_tellWarmth_9 (by decide) (fun h9 => ?_) (fun h9 => ?_)
  · skip
    refine wx_aload_n (i := 0) dX6_tellWarmth_20 rfl rfl ?_
    refine wx_getRG (k := 114) (t := 115) dX6_tellWarmth_21 zF_X6_9 zKo_114 rfl (Nat.le_of_ble_eq_true rfl) zRf_114_0 ?_
    refine wx_iload_n (i := 1) dX6_tellWarmth_24 rfl rfl ?_
    refine wx_iload_n (i := 2) dX6_tellWarmth_25 rfl rfl ?_
    refine wx_iastG (k := 115) dX6_tellWarmth_26 zK_115 (Nat.le_of_ble_eq_true rfl) rfl ?_ ?_
    · exact ⟨hz, by decide⟩
    refine wx_iload_n (i := 3) dX6_tellWarmth_27 rfl rfl ?_
    refine wx_iret dX6_tellWarmth_28 rfl rfl (Or.inl rfl) ?_
    exact hK
  · exact absurd (show nI z = nI 8 from h9) (by rw [nI_eq (by omega) (by decide)]; omega) --end
theorem s_X6_tellWarmth_a {d : Nat} {K : List Value → zS → Prop} {mm : zM} {v : Int32} (hK : K [.int (mm 114 2)] (zG (zU mm 114 2 v))) : wm (d + 1) mX6_tellWarmth [.ref 114, .int 8, .int v] (zG mm) K := by
  refine wm_of2 (L0 := [some (.ref 114), some (.int 8), some (.int v), none]) zCm_X6_tellWarmth (Or.inl rfl) (Nat.le_of_ble_eq_true rfl) rfl ?_
  refine wx_aload_n (i := 0) dX6_tellWarmth_0 rfl rfl ?_
  refine wx_iload_n (i := 1) dX6_tellWarmth_1 rfl rfl ?_
  refine wx_V1 dX6_tellWarmth_2 zPV_X6_warmthOf zLk_X6_22 rfl (Nat.le_of_ble_eq_true rfl) (Nat.le_of_ble_eq_true rfl) (Or.inr rfl) ?_
  refine s_X6_warmthOf_a ?_
  refine wx_r1 ?_
  refine wx_istore_n (i := 3) dX6_tellWarmth_5 rfl (Nat.le_of_ble_eq_true rfl) rfl ?_
  refine wx_iload_n (i := 1) dX6_tellWarmth_6 rfl rfl ?_
  refine wx_bipush (v := 8) dX6_tellWarmth_7 (by decide) ?_
  refine wx_icmp_ne (tgt := 20) dX6_tellWarmth_9 (by decide) (fun h9 => ?_) (fun h9 => ?_)
  · exact absurd rfl h9 --end
  · skip
    refine wx_aload_n (i := 0) dX6_tellWarmth_12 rfl rfl ?_
    refine wx_iload_n (i := 2) dX6_tellWarmth_13 rfl rfl ?_
    refine wx_putIG (k := 114) dX6_tellWarmth_14 zF_X6_18 zKo_114 rfl (Nat.le_of_ble_eq_true rfl) rfl rfl ?_
    refine wx_goto (tgt := 27) dX6_tellWarmth_17 (by decide) ?_
    refine wx_iload_n (i := 3) dX6_tellWarmth_27 rfl rfl ?_
    refine wx_iret dX6_tellWarmth_28 rfl rfl (Or.inl rfl) ?_
    exact hK
theorem zIt_add (s : Nat → Int) (a : Int) (i : Nat) : ∀ n, zIt s a (i + n) = zIt (zIt s a i) a n
  | 0 => rfl
  | n + 1 => by
    show zsh (zIt s a (i + n)) a = zsh (zIt (zIt s a i) a n) a
    rw [zIt_add s a i n]
theorem zMi_row {mm : zM} {k : Nat} {s : Nat → Int} {a : Int} {j : Nat} (hj : j < 8) : zMi mm k s a 8 k j = zi (zsh s a j) := by
  simp only [zMi, va_up, if_true, zCp]
  rw [if_pos hj]
theorem zMi_off {mm : zM} {k c : Nat} {s : Nat → Int} {a : Int} {i : Nat} (h : c ≠ k) : zMi mm k s a i c = mm c := if_neg h
/-- the least i, of the next c from i on, for which D i is e at most; -4: none is -/
def zFirst (D : Nat → Int) (e : Int) : Nat → Nat → Int32
  | 0, _ => -4
  | c + 1, i => if D i ≤ e then nI i else zFirst D e c (i + 1)
theorem zFirst_none {D : Nat → Int} {e : Int} : ∀ (c i : Nat), (∀ j, i ≤ j → ¬ D j ≤ e) → zFirst D e c i = -4
  | 0, _, _ => rfl
  | c + 1, i, h => by
    unfold zFirst
    rw [if_neg (h i (Nat.le_refl _))]
    exact zFirst_none c (i + 1) (fun j hj => h j (by omega))
/-- greatest less least, of all and a -/
def zSp (s : Nat → Int) (a : Int) : Int := zMx s a 8 - zMn s a 8
theorem zMx_cong {f g : Nat → Int} {o : Int} : ∀ {n : Nat}, (∀ j, j < n → f j = g j) → zMx f o n = zMx g o n
  | 0, _ => rfl
  | n + 1, h => by
    unfold zMx
    rw [zMx_cong (fun j hj => h j (by omega)), h n (by omega)]
theorem zMn_cong {f g : Nat → Int} {o : Int} : ∀ {n : Nat}, (∀ j, j < n → f j = g j) → zMn f o n = zMn g o n
  | 0, _ => rfl
  | n + 1, h => by
    unfold zMn
    rw [zMn_cong (fun j hj => h j (by omega)), h n (by omega)]
theorem zSp_cong {s t : Nat → Int} {a : Int} (h : ∀ j, j < 8 → s j = t j) : zSp s a = zSp t a := by
  unfold zSp
  rw [zMx_cong h, zMn_cong h]
theorem lp_letgo {d : Nat} {K : List Value → zS → Prop} {mm : zM} {s : Nat → Int} {a : Int} {m : Nat} (hm : m ≤ 1000) (hb : zBd s a) (ha : mm 114 2 = zi a) (hK : ∀ m1 : zM, (∀ c, c ≠ 115 → m1 c = mm c) → (∀ j, j < 8 → m1 115 j = zi (zIt s a m j)) → wx (d + 2) mX6_letGoBy 28 [some (.ref 114), some (.int (nI m)), none, none] [] (zG m1) K) : ∀ (c i : Nat) (b : Int32) (m1 : zM), i + c = m → (b = 0 ∨ b = 1) → (b = 0 → ∀ j, j < 8 → zsh (zIt s a i) a j = zIt s a i j) → (∀ c, c ≠ 115 → m1 c = mm c) → (∀ j, j < 8 → m1 115 j = zi (zIt s a i j)) → wx (d + 2) mX6_letGoBy 4 [some (.ref 114), some (.int (nI m)), some (.int b), some (.int (nI i))] [] (zG m1) K := by
  intro c
  induction c with
  | zero =>
    intro i b m1 hi hb1 hb0 hf hs
    have hin : i = m := by omega
    subst hin
    refine wx_iload_n (i := 3) dX6_letGoBy_4 rfl rfl ?_
    refine wx_iload_n (i := 1) dX6_letGoBy_5 rfl rfl ?_
    refine wx_icmp_ge (tgt := 28) dX6_letGoBy_6 (by decide) (fun h6 => ?_) (fun h6 => ?_)
    · skip
      refine wx_weak 2 ?_
      refine wx_weak 3 ?_
      exact hK m1 hf hs
    · exact absurd (nI_le (Nat.le_refl _) (by omega)) h6 --end
  | succ c ih =>
    intro i b m1 hi hb1 hb0 hf hs
    refine wx_iload_n (i := 3) dX6_letGoBy_4 rfl rfl ?_
    refine wx_iload_n (i := 1) dX6_letGoBy_5 rfl rfl ?_
    refine wx_icmp_ge (tgt := 28) dX6_letGoBy_6 (by decide) (fun h6 => ?_) (fun h6 => ?_)
    · exact absurd h6 (nI_ge (by omega) (by omega)) --end
    · skip
      refine wx_iload_n (i := 2) dX6_letGoBy_9 rfl rfl ?_
      refine wx_if_eq (tgt := 28) dX6_letGoBy_10 (by decide) (fun h10 => ?_) (fun h10 => ?_)
      · skip
        refine wx_weak 2 ?_
        refine wx_weak 3 ?_
        refine hK m1 hf (fun j hj => ?_)
        rw [hs j hj, show m = i + (c + 1) by omega, zIt_add]
        exact congrArg zi (zIt_fix (hb0 h10) (c + 1) j hj).symm
      · skip
        refine wx_aload_n (i := 0) dX6_letGoBy_13 rfl rfl ?_
        refine wx_aload_n (i := 0) dX6_letGoBy_14 rfl rfl ?_
        refine wx_getRG (k := 114) (t := 115) dX6_letGoBy_15 zF_X6_9 zKo_114 rfl (Nat.le_of_ble_eq_true rfl) zRf_114_0 ?_
        refine wx_V1 dX6_letGoBy_18 zPV_X6_goOneMinute zLk_X6_26 rfl (Nat.le_of_ble_eq_true rfl) (Nat.le_of_ble_eq_true rfl) (Or.inr rfl) ?_
        refine s_X6_goOneMinute (k := 115) (s := zIt s a i) (a := a) zK_115 (by decide) (by decide) (zIt_bd hb i) hs (by rw [hf 114 (by decide)]; exact ha) ?_
        refine wx_r1 ?_
        refine wx_istore_n (i := 2) dX6_letGoBy_21 rfl (Nat.le_of_ble_eq_true rfl) rfl ?_
        refine wx_inc (c := 1) dX6_letGoBy_22 rfl (by decide) (Nat.le_of_ble_eq_true rfl) rfl ?_
        refine wx_goto (tgt := 4) dX6_letGoBy_25 (by decide) ?_
        rw [nI_1]
        refine ih (i + 1) _ _ (by omega) (zMv_01 _ _ _) (fun q j hj => ?_) (fun q hq => ?_) (fun j hj => ?_)
        · have h2 := zMv_0 q
          show zsh (zsh (zIt s a i) a) a j = zsh (zIt s a i) a j
          exact zsh_cong (fun x hx => h2 x hx) hj
        · rw [zMi_off hq]; exact hf q hq
        · exact zMi_row hj
theorem s_X6_letGoBy {d : Nat} {K : List Value → zS → Prop} {mm : zM} {s : Nat → Int} {a : Int} {m : Nat} (hm : m ≤ 1000) (hb : zBd s a) (ha : mm 114 2 = zi a) (hs : ∀ j, j < 8 → mm 115 j = zi (s j)) (hK : ∀ m1 : zM, (∀ c, c ≠ 115 → m1 c = mm c) → (∀ j, j < 8 → m1 115 j = zi (zIt s a m j)) → K [.int (zi (zMx (zIt s a m) (zIt s a m 0) 8 - zMn (zIt s a m) (zIt s a m 0) 8))] (zG m1)) : wm (d + 2) mX6_letGoBy [.ref 114, .int (nI m)] (zG mm) K := by
  refine wm_of2 (L0 := [some (.ref 114), some (.int (nI m)), none, none]) zCm_X6_letGoBy (Or.inl rfl) (Nat.le_of_ble_eq_true rfl) rfl ?_
  refine wx_iconst (v := 1) dX6_letGoBy_0 (by decide) ?_
  refine wx_istore_n (i := 2) dX6_letGoBy_1 rfl (Nat.le_of_ble_eq_true rfl) rfl ?_
  refine wx_iconst (v := 0) dX6_letGoBy_2 (by decide) ?_
  refine wx_istore_n (i := 3) dX6_letGoBy_3 rfl (Nat.le_of_ble_eq_true rfl) rfl ?_
  refine lp_letgo hm hb ha (fun m1 hf hs2 => ?_) m 0 1 mm (by omega) (Or.inr rfl) (fun q => absurd q (by decide)) (fun _ _ => rfl) hs
  refine wx_aload_n (i := 0) dX6_letGoBy_28 rfl rfl ?_
  refine wx_getRG (k := 114) (t := 115) dX6_letGoBy_29 zF_X6_9 zKo_114 rfl (Nat.le_of_ble_eq_true rfl) zRf_114_0 ?_
  refine wx_aload_n (i := 0) dX6_letGoBy_32 rfl rfl ?_
  refine wx_getRG (k := 114) (t := 115) dX6_letGoBy_33 zF_X6_9 zKo_114 rfl (Nat.le_of_ble_eq_true rfl) zRf_114_0 ?_
  refine wx_iconst (v := 0) dX6_letGoBy_36 (by decide) ?_
  refine wx_ialdG (k := 115) (j := 0) dX6_letGoBy_37 zK_115 (Nat.le_of_ble_eq_true rfl) rfl ?_ ?_
  · exact ⟨by decide, by decide⟩
  refine wx_S2 dX6_letGoBy_38 zPS_X6_greatest zLk_X6_30 (Nat.le_of_ble_eq_true rfl) (Or.inr rfl) ?_
  rw [hs2 0 (by decide)]
  refine s_X6_greatest (k := 115) (s := zIt s a m) zK_115 (by decide) (zIt_bd hb m).1 ((zIt_bd hb m).1 0 (by decide)) hs2 ?_
  refine wx_r1 ?_
  refine wx_aload_n (i := 0) dX6_letGoBy_41 rfl rfl ?_
  refine wx_getRG (k := 114) (t := 115) dX6_letGoBy_42 zF_X6_9 zKo_114 rfl (Nat.le_of_ble_eq_true rfl) zRf_114_0 ?_
  refine wx_aload_n (i := 0) dX6_letGoBy_45 rfl rfl ?_
  refine wx_getRG (k := 114) (t := 115) dX6_letGoBy_46 zF_X6_9 zKo_114 rfl (Nat.le_of_ble_eq_true rfl) zRf_114_0 ?_
  refine wx_iconst (v := 0) dX6_letGoBy_49 (by decide) ?_
  refine wx_ialdG (k := 115) (j := 0) dX6_letGoBy_50 zK_115 (Nat.le_of_ble_eq_true rfl) rfl ?_ ?_
  · exact ⟨by decide, by decide⟩
  refine wx_S2 dX6_letGoBy_51 zPS_X6_least zLk_X6_34 (Nat.le_of_ble_eq_true rfl) (Or.inr rfl) ?_
  rw [hs2 0 (by decide)]
  refine s_X6_least (k := 115) (s := zIt s a m) zK_115 (by decide) (zIt_bd hb m).1 ((zIt_bd hb m).1 0 (by decide)) hs2 ?_
  refine wx_r1 ?_
  refine wx_isub dX6_letGoBy_54 ?_
  refine wx_iret dX6_letGoBy_55 rfl rfl (Or.inl rfl) ?_
  rw [zi_sub]
  exact hK m1 hf hs2
theorem lp_still {d : Nat} {K : List Value → zS → Prop} {mm : zM} {s : Nat → Int} {a e : Int} (he : 0 ≤ e ∧ e ≤ 100000) (hb : zBd s a) (ha : mm 114 2 = zi a) (r : Int32) (hK : ∀ m1 : zM, (∀ c, c ≠ 116 → m1 c = mm c) → K [.int r] (zG m1)) : ∀ (c i : Nat) (b : Int32) (m1 : zM), i + c = 2001 → zFirst (fun i => zSp (zIt s a i) a) e c i = r → (b = 0 ∨ b = 1) → (b = 0 → (∀ j, j < 8 → zsh (zIt s a i) a j = zIt s a i j) ∧ ¬ zSp (zIt s a i) a ≤ e) → (∀ c, c ≠ 116 → m1 c = mm c) → (∀ j, j < 8 → m1 116 j = zi (zIt s a i j)) → wx (d + 2) mX6_minutesTillStill 19 [some (.ref 114), some (.int (zi e)), some (.int b), some (.int (nI i))] [] (zG m1) K := by
  intro c
  induction c with
  | zero =>
    intro i b m1 hi hr hb1 hb0 hf hs
    subst hr
    refine wx_iload_n (i := 3) dX6_minutesTillStill_19 rfl rfl ?_
    refine wx_sipush (v := 2000) dX6_minutesTillStill_20 (by decide) ?_
    refine wx_icmp_gt (tgt := 74) dX6_minutesTillStill_23 (by decide) (fun h23 => ?_) (fun h23 => ?_)
    · skip
      refine wx_bipush (v := (-4)) dX6_minutesTillStill_74 (by decide) ?_
      refine wx_iret dX6_minutesTillStill_76 rfl rfl (Or.inl rfl) ?_
      exact hK m1 hf
    · exact absurd (show nI 2000 < nI i from nI_lt (by omega) (by omega)) h23 --end
  | succ c ih =>
    intro i b m1 hi hr hb1 hb0 hf hs
    have ea : m1 114 2 = zi a := by rw [hf 114 (by decide)]; exact ha
    have hD : -200000 ≤ zSp (zIt s a i) a ∧ zSp (zIt s a i) a ≤ 200000 := by
      have h1 := zMx_bd (n := 8) (zIt_bd hb i).1 hb.2
      have h2 := zMn_bd (n := 8) (zIt_bd hb i).1 hb.2
      unfold zSp
      omega
    have hr2 : (if zSp (zIt s a i) a ≤ e then nI i else zFirst (fun i => zSp (zIt s a i) a) e c (i + 1)) = r := hr
    refine wx_iload_n (i := 3) dX6_minutesTillStill_19 rfl rfl ?_
    refine wx_sipush (v := 2000) dX6_minutesTillStill_20 (by decide) ?_
    refine wx_icmp_gt (tgt := 74) dX6_minutesTillStill_23 (by decide) (fun h23 => ?_) (fun h23 => ?_)
    · exact absurd (show nI 2000 < nI i from h23) (nI_nlt (by omega) (by omega)) --end
    · skip
      refine wx_iload_n (i := 2) dX6_minutesTillStill_26 rfl rfl ?_
      refine wx_if_eq (tgt := 74) dX6_minutesTillStill_27 (by decide) (fun h27 => ?_) (fun h27 => ?_)
      · have hno : ∀ j, i ≤ j → ¬ zSp (zIt s a j) a ≤ e := fun j hj => by
          rw [show j = i + (j - i) by omega, zIt_add, zSp_cong (zIt_fix (hb0 h27).1 (j - i))]
          exact (hb0 h27).2
        have hr3 : zFirst (fun i => zSp (zIt s a i) a) e (c + 1) i = -4 := zFirst_none (c + 1) i hno
        rw [hr3] at hr
        subst hr
        refine wx_bipush (v := (-4)) dX6_minutesTillStill_74 (by decide) ?_
        refine wx_iret dX6_minutesTillStill_76 rfl rfl (Or.inl rfl) ?_
        exact hK m1 hf
      · skip
        refine wx_aload_n (i := 0) dX6_minutesTillStill_30 rfl rfl ?_
        refine wx_getRG (k := 114) (t := 116) dX6_minutesTillStill_31 zF_X6_15 zKo_114 rfl (Nat.le_of_ble_eq_true rfl) zRf_114_1 ?_
        refine wx_aload_n (i := 0) dX6_minutesTillStill_34 rfl rfl ?_
        refine wx_getIG (k := 114) dX6_minutesTillStill_35 zF_X6_18 zKo_114 rfl (Nat.le_of_ble_eq_true rfl) ?_
        refine wx_S2 dX6_minutesTillStill_38 zPS_X6_greatest zLk_X6_30 (Nat.le_of_ble_eq_true rfl) (Or.inr rfl) ?_
        rw [ea]
        refine s_X6_greatest (k := 116) (s := zIt s a i) zK_116 (by decide) (zIt_bd hb i).1 hb.2 hs ?_
        refine wx_r1 ?_
        refine wx_aload_n (i := 0) dX6_minutesTillStill_41 rfl rfl ?_
        refine wx_getRG (k := 114) (t := 116) dX6_minutesTillStill_42 zF_X6_15 zKo_114 rfl (Nat.le_of_ble_eq_true rfl) zRf_114_1 ?_
        refine wx_aload_n (i := 0) dX6_minutesTillStill_45 rfl rfl ?_
        refine wx_getIG (k := 114) dX6_minutesTillStill_46 zF_X6_18 zKo_114 rfl (Nat.le_of_ble_eq_true rfl) ?_
        refine wx_S2 dX6_minutesTillStill_49 zPS_X6_least zLk_X6_34 (Nat.le_of_ble_eq_true rfl) (Or.inr rfl) ?_
        rw [ea]
        refine s_X6_least (k := 116) (s := zIt s a i) zK_116 (by decide) (zIt_bd hb i).1 hb.2 hs ?_
        refine wx_r1 ?_
        refine wx_isub dX6_minutesTillStill_52 ?_
        refine wx_iload_n (i := 1) dX6_minutesTillStill_53 rfl rfl ?_
        refine wx_icmp_gt (tgt := 59) dX6_minutesTillStill_54 (by decide) (fun h54 => ?_) (fun h54 => ?_)
        · rw [zi_sub, show zi (zMx (zIt s a i) a 8 - zMn (zIt s a i) a 8) = zi (zSp (zIt s a i) a) from rfl, zi_lt (by omega) (by omega)] at h54
          refine wx_aload_n (i := 0) dX6_minutesTillStill_59 rfl rfl ?_
          refine wx_aload_n (i := 0) dX6_minutesTillStill_60 rfl rfl ?_
          refine wx_getRG (k := 114) (t := 116) dX6_minutesTillStill_61 zF_X6_15 zKo_114 rfl (Nat.le_of_ble_eq_true rfl) zRf_114_1 ?_
          refine wx_V1 dX6_minutesTillStill_64 zPV_X6_goOneMinute zLk_X6_26 rfl (Nat.le_of_ble_eq_true rfl) (Nat.le_of_ble_eq_true rfl) (Or.inr rfl) ?_
          refine s_X6_goOneMinute (k := 116) (s := zIt s a i) (a := a) zK_116 (by decide) (by decide) (zIt_bd hb i) hs ea ?_
          refine wx_r1 ?_
          refine wx_istore_n (i := 2) dX6_minutesTillStill_67 rfl (Nat.le_of_ble_eq_true rfl) rfl ?_
          refine wx_inc (c := 1) dX6_minutesTillStill_68 rfl (by decide) (Nat.le_of_ble_eq_true rfl) rfl ?_
          refine wx_goto (tgt := 19) dX6_minutesTillStill_71 (by decide) ?_
          rw [nI_1]
          rw [if_neg (by omega)] at hr2
          refine ih (i + 1) _ _ (by omega) hr2 (zMv_01 _ _ _) (fun q => ⟨fun j hj => ?_, ?_⟩) (fun q hq => ?_) (fun j hj => ?_)
          · exact zsh_cong (fun x hx => zMv_0 q x hx) hj
          · show ¬ zSp (zsh (zIt s a i) a) a ≤ e
            rw [zSp_cong (fun x hx => zMv_0 q x hx)]
            omega
          · rw [zMi_off hq]; exact hf q hq
          · exact zMi_row hj
        · rw [zi_sub, show zi (zMx (zIt s a i) a 8 - zMn (zIt s a i) a 8) = zi (zSp (zIt s a i) a) from rfl, zi_lt (by omega) (by omega)] at h54
          refine wx_iload_n (i := 3) dX6_minutesTillStill_57 rfl rfl ?_
          refine wx_iret dX6_minutesTillStill_58 rfl rfl (Or.inl rfl) ?_
          rw [if_pos (by omega)] at hr2
          rw [hr2]
          exact hK m1 hf
theorem s_X6_minutesTillStill {d : Nat} {K : List Value → zS → Prop} {mm : zM} {s : Nat → Int} {a e : Int} (he : 0 ≤ e ∧ e ≤ 100000) (hb : zBd s a) (ha : mm 114 2 = zi a) (hs : ∀ j, j < 8 → mm 115 j = zi (s j)) (hK : ∀ m1 : zM, (∀ c, c ≠ 116 → m1 c = mm c) → K [.int (zFirst (fun i => zSp (zIt s a i) a) e 2001 0)] (zG m1)) : wm (d + 2) mX6_minutesTillStill [.ref 114, .int (zi e)] (zG mm) K := by
  refine wm_of2 (L0 := [some (.ref 114), some (.int (zi e)), none, none]) zCm_X6_minutesTillStill (Or.inl rfl) (Nat.le_of_ble_eq_true rfl) rfl ?_
  refine wx_aload_n (i := 0) dX6_minutesTillStill_0 rfl rfl ?_
  refine wx_getRG (k := 114) (t := 115) dX6_minutesTillStill_1 zF_X6_9 zKo_114 rfl (Nat.le_of_ble_eq_true rfl) zRf_114_0 ?_
  refine wx_iconst (v := 0) dX6_minutesTillStill_4 (by decide) ?_
  refine wx_aload_n (i := 0) dX6_minutesTillStill_5 rfl rfl ?_
  refine wx_getRG (k := 114) (t := 116) dX6_minutesTillStill_6 zF_X6_15 zKo_114 rfl (Nat.le_of_ble_eq_true rfl) zRf_114_1 ?_
  refine wx_iconst (v := 0) dX6_minutesTillStill_9 (by decide) ?_
  refine wx_bipush (v := 8) dX6_minutesTillStill_10 (by decide) ?_
  refine wx_acopyG (x := 0) (y := 0) (z := 8) dX6_minutesTillStill_12 zLk_X6_37 zAc_n zAc_s zAc_i zK_115 zK_116 (Nat.le_of_ble_eq_true rfl) (Nat.le_of_ble_eq_true rfl) (by decide) (by decide) (by decide) (by decide) (by decide) (by decide) (by decide) (by decide) (Nat.le_of_ble_eq_true rfl) ?_
  refine wx_iconst (v := 1) dX6_minutesTillStill_15 (by decide) ?_
  refine wx_istore_n (i := 2) dX6_minutesTillStill_16 rfl (Nat.le_of_ble_eq_true rfl) rfl ?_
  refine wx_iconst (v := 0) dX6_minutesTillStill_17 (by decide) ?_
  refine wx_istore_n (i := 3) dX6_minutesTillStill_18 rfl (Nat.le_of_ble_eq_true rfl) rfl ?_
  refine lp_still he hb ha _ hK 2001 0 1 _ (by omega) rfl (Or.inr rfl) (fun q => absurd q (by decide)) (fun c hc => if_neg hc) (fun j hj => ?_)
  simp only [va_up, if_true, va_cpy]
  rw [if_pos (by omega)]
  rw [show 0 + (j - 0) = j by omega]
  exact hs j hj
theorem lp_pass1 {d : Nat} {K : List Value → zS → Prop} {mm : zM} {s : Nat → Int} {a : Int} (hs : ∀ j, j < 8 → mm 141 j = zi (s j)) (hK : ∀ m1 : zM, (∀ c, c ≠ 151 → m1 c = mm c) → m1 151 0 = zi a → m1 151 9 = zi a → (∀ j, j < 8 → m1 151 (j + 1) = zi (s j)) → wx (d + 1) mX9_passes 55 [some (.ref 128), none] [] (zG m1) K) : ∀ (c i : Nat) (m1 : zM), i + c = 8 → (∀ c, c ≠ 151 → m1 c = mm c) → m1 151 0 = zi a → m1 151 9 = zi a → (∀ j, j < i → m1 151 (j + 1) = zi (s j)) → wx (d + 1) mX9_passes 29 [some (.ref 128), some (.int (nI i))] [] (zG m1) K := by
  intro c
  induction c with
  | zero =>
    intro i m1 hi hf h0 h9 hr
    have hin : i = 8 := by omega
    subst hin
    refine wx_iload_n (i := 1) dX9_passes_29 rfl rfl ?_
    refine wx_bipush (v := 8) dX9_passes_30 (by decide) ?_
    refine wx_icmp_ge (tgt := 55) dX9_passes_32 (by decide) (fun h32 => ?_) (fun h32 => ?_)
    · skip
      refine wx_weak 1 ?_
      exact hK m1 hf h0 h9 hr
    · exact absurd (show nI 8 ≤ nI 8 from nI_le (by omega) (by omega)) h32 --end
  | succ c ih =>
    intro i m1 hi hf h0 h9 hr
    refine wx_iload_n (i := 1) dX9_passes_29 rfl rfl ?_
    refine wx_bipush (v := 8) dX9_passes_30 (by decide) ?_
    refine wx_icmp_ge (tgt := 55) dX9_passes_32 (by decide) (fun h32 => ?_) (fun h32 => ?_)
    · exact absurd (show nI 8 ≤ nI i from h32) (nI_ge (by omega) (by omega)) --end
    · skip
      refine wx_aload_n (i := 0) dX9_passes_35 rfl rfl ?_
      refine wx_getRG (k := 128) (t := 151) dX9_passes_36 zF_X9_96 zKo_128 rfl (Nat.le_of_ble_eq_true rfl) zRf_128_34 ?_
      refine wx_iload_n (i := 1) dX9_passes_39 rfl rfl ?_
      refine wx_iconst (v := 1) dX9_passes_40 (by decide) ?_
      refine wx_iadd dX9_passes_41 ?_
      refine wx_aload_n (i := 0) dX9_passes_42 rfl rfl ?_
      refine wx_getRG (k := 128) (t := 141) dX9_passes_43 zF_X9_65 zKo_128 rfl (Nat.le_of_ble_eq_true rfl) zRf_128_20 ?_
      refine wx_iload_n (i := 1) dX9_passes_46 rfl rfl ?_
      refine wx_ialdG (k := 141) dX9_passes_47 zK_141 (Nat.le_of_ble_eq_true rfl) rfl ?_ ?_
      · exact ⟨by omega, by decide⟩
      refine wx_iastG (k := 151) (j := i + 1) dX9_passes_48 zK_151 (Nat.le_of_ble_eq_true rfl) ?_ ?_ ?_
      · exact nI_1 i
      · exact ⟨by omega, by decide⟩
      refine wx_inc (c := 1) dX9_passes_49 rfl (by decide) (Nat.le_of_ble_eq_true rfl) rfl ?_
      refine wx_goto (tgt := 29) dX9_passes_52 (by decide) ?_
      rw [nI_1]
      refine ih (i + 1) _ (by omega) (fun q hq => (zU_ne hq).trans (hf q hq)) ((zU_off (by omega)).trans h0) ((zU_off (by omega)).trans h9) (fun j hj => ?_)
      rcases Nat.lt_or_ge j i with q | q
      · exact (zU_off (by omega)).trans (hr j q)
      · rw [show j = i by omega, zU_same, hf 141 (by decide)]
        exact hs i (by omega)
theorem lp_pass2 {d : Nat} {K : List Value → zS → Prop} {mm : zM} {s : Nat → Int} {a : Int} (hb : zBd s a) (hK : ∀ m1 : zM, (∀ c, c ≠ 141 → m1 c = mm c) → (∀ j, j < 8 → m1 141 j = zi (zsh s a j)) → m1 141 8 = mm 141 8 → K [] (zG m1)) (h0 : mm 151 0 = zi a) (h9 : mm 151 9 = zi a) (hr : ∀ j, j < 8 → mm 151 (j + 1) = zi (s j)) : ∀ (c i : Nat) (m1 : zM), i + c = 8 → (∀ c, c ≠ 141 → m1 c = mm c) → m1 141 8 = mm 141 8 → (∀ j, j < i → m1 141 j = zi (zsh s a j)) → (∀ j, i ≤ j → j < 8 → m1 141 j = zi (s j)) → wx (d + 1) mX9_passes 57 [some (.ref 128), some (.int (nI i))] [] (zG m1) K := by
  intro c
  induction c with
  | zero =>
    intro i m1 hi hf h8 ha hb2
    have hin : i = 8 := by omega
    subst hin
    refine wx_iload_n (i := 1) dX9_passes_57 rfl rfl ?_
    refine wx_bipush (v := 8) dX9_passes_58 (by decide) ?_
    refine wx_icmp_ge (tgt := 108) dX9_passes_60 (by decide) (fun h60 => ?_) (fun h60 => ?_)
    · skip
      refine wx_vret dX9_passes_108 rfl (Or.inl rfl) ?_
      exact hK m1 hf ha h8
    · exact absurd (show nI 8 ≤ nI 8 from nI_le (by omega) (by omega)) h60 --end
  | succ c ih =>
    intro i m1 hi hf h8 ha hb2
    have hi8 : i < 8 := by omega
    have e0 : m1 151 i = zi (if i = 0 then a else s (i - 1)) := by
      rw [hf 151 (by decide)]
      by_cases q : i = 0
      · rw [if_pos q, q]; exact h0
      · rw [if_neg q]
        have h := hr (i - 1) (by omega)
        rw [show i - 1 + 1 = i by omega] at h
        exact h
    have e1 : m1 151 (i + 1) = zi (s i) := by rw [hf 151 (by decide)]; exact hr i hi8
    have e2 : m1 151 (i + 2) = zi (if i + 1 < 8 then s (i + 1) else a) := by
      rw [hf 151 (by decide)]
      by_cases q : i + 1 < 8
      · rw [if_pos q]; exact hr (i + 1) q
      · rw [if_neg q, show i + 2 = 9 by omega]; exact h9
    have e3 : m1 141 i = zi (s i) := hb2 i (Nat.le_refl _) hi8
    refine wx_iload_n (i := 1) dX9_passes_57 rfl rfl ?_
    refine wx_bipush (v := 8) dX9_passes_58 (by decide) ?_
    refine wx_icmp_ge (tgt := 108) dX9_passes_60 (by decide) (fun h60 => ?_) (fun h60 => ?_)
    · exact absurd (show nI 8 ≤ nI i from h60) (nI_ge (by omega) (by omega)) --end
    · skip
      refine wx_aload_n (i := 0) dX9_passes_63 rfl rfl ?_
      refine wx_getRG (k := 128) (t := 141) dX9_passes_64 zF_X9_65 zKo_128 rfl (Nat.le_of_ble_eq_true rfl) zRf_128_20 ?_
      refine wx_iload_n (i := 1) dX9_passes_67 rfl rfl ?_
      refine wx_dup2 dX9_passes_68 rfl rfl ?_
      refine wx_ialdG (k := 141) dX9_passes_69 zK_141 (Nat.le_of_ble_eq_true rfl) rfl ?_ ?_
      · exact ⟨by omega, by decide⟩
      refine wx_aload_n (i := 0) dX9_passes_70 rfl rfl ?_
      refine wx_getRG (k := 128) (t := 151) dX9_passes_71 zF_X9_96 zKo_128 rfl (Nat.le_of_ble_eq_true rfl) zRf_128_34 ?_
      refine wx_iload_n (i := 1) dX9_passes_74 rfl rfl ?_
      refine wx_ialdG (k := 151) dX9_passes_75 zK_151 (Nat.le_of_ble_eq_true rfl) rfl ?_ ?_
      · exact ⟨by omega, by decide⟩
      refine wx_aload_n (i := 0) dX9_passes_76 rfl rfl ?_
      refine wx_getRG (k := 128) (t := 151) dX9_passes_77 zF_X9_96 zKo_128 rfl (Nat.le_of_ble_eq_true rfl) zRf_128_34 ?_
      refine wx_iload_n (i := 1) dX9_passes_80 rfl rfl ?_
      refine wx_iconst (v := 2) dX9_passes_81 (by decide) ?_
      refine wx_iadd dX9_passes_82 ?_
      refine wx_ialdG (k := 151) (j := i + 2) dX9_passes_83 zK_151 (Nat.le_of_ble_eq_true rfl) ?_ ?_ ?_
      · (simp only [zl_2, zi_nI, zi_add] <;> first | done | exact congrArg zi (by omega))
      · exact ⟨by omega, by decide⟩
      refine wx_iadd dX9_passes_84 ?_
      refine wx_iconst (v := 2) dX9_passes_85 (by decide) ?_
      refine wx_aload_n (i := 0) dX9_passes_86 rfl rfl ?_
      refine wx_getRG (k := 128) (t := 151) dX9_passes_87 zF_X9_96 zKo_128 rfl (Nat.le_of_ble_eq_true rfl) zRf_128_34 ?_
      refine wx_iload_n (i := 1) dX9_passes_90 rfl rfl ?_
      refine wx_iconst (v := 1) dX9_passes_91 (by decide) ?_
      refine wx_iadd dX9_passes_92 ?_
      refine wx_ialdG (k := 151) (j := i + 1) dX9_passes_93 zK_151 (Nat.le_of_ble_eq_true rfl) ?_ ?_ ?_
      · exact nI_1 i
      · exact ⟨by omega, by decide⟩
      refine wx_imul dX9_passes_94 ?_
      refine wx_isub dX9_passes_95 ?_
      refine wx_iconst (v := 4) dX9_passes_96 (by decide) ?_
      refine wx_S2 dX9_passes_97 zPS_X9_down zLk_X9_204 (Nat.le_of_ble_eq_true rfl) (Or.inr rfl) ?_
      rw [e0, e1, e2, zl_2, zi_mul, zi_add, zi_sub]
      refine s_dn4 hb hi8 ?_
      refine wx_r1 ?_
      refine wx_iadd dX9_passes_100 ?_
      refine wx_iastG (k := 141) dX9_passes_101 zK_141 (Nat.le_of_ble_eq_true rfl) rfl ?_ ?_
      · exact ⟨by omega, by decide⟩
      refine wx_inc (c := 1) dX9_passes_102 rfl (by decide) (Nat.le_of_ble_eq_true rfl) rfl ?_
      refine wx_goto (tgt := 57) dX9_passes_105 (by decide) ?_
      rw [nI_1, e3, zi_add]
      refine ih (i + 1) _ (by omega) (fun q hq => (zU_ne hq).trans (hf q hq)) ((zU_off (by omega)).trans h8) (fun j hj => ?_) (fun j h1 h2 => (zU_off (by omega)).trans (hb2 j (by omega) h2))
      rcases Nat.lt_or_ge j i with q | q
      · exact (zU_off (by omega)).trans (ha j q)
      · rw [show j = i by omega, zU_same]
        rfl
theorem s_X9_passes {d : Nat} {K : List Value → zS → Prop} {mm : zM} {s : Nat → Int} {a : Int} (hb : zBd s a) (hs : ∀ j, j < 8 → mm 141 j = zi (s j)) (ha : mm 141 8 = zi a) (hK : ∀ m1 : zM, (∀ c, c ≠ 141 → c ≠ 151 → m1 c = mm c) → (∀ j, j < 8 → m1 141 j = zi (zsh s a j)) → m1 141 8 = zi a → K [] (zG m1)) : wm (d + 1) mX9_passes [.ref 128] (zG mm) K := by
  refine wm_of2 (L0 := [some (.ref 128), none]) zCm_X9_passes (Or.inl rfl) (Nat.le_of_ble_eq_true rfl) rfl ?_
  refine wx_aload_n (i := 0) dX9_passes_0 rfl rfl ?_
  refine wx_getRG (k := 128) (t := 151) dX9_passes_1 zF_X9_96 zKo_128 rfl (Nat.le_of_ble_eq_true rfl) zRf_128_34 ?_
  refine wx_iconst (v := 0) dX9_passes_4 (by decide) ?_
  refine wx_aload_n (i := 0) dX9_passes_5 rfl rfl ?_
  refine wx_getRG (k := 128) (t := 141) dX9_passes_6 zF_X9_65 zKo_128 rfl (Nat.le_of_ble_eq_true rfl) zRf_128_20 ?_
  refine wx_bipush (v := 8) dX9_passes_9 (by decide) ?_
  refine wx_ialdG (k := 141) (j := 8) dX9_passes_11 zK_141 (Nat.le_of_ble_eq_true rfl) rfl ?_ ?_
  · exact ⟨by decide, by decide⟩
  refine wx_iastG (k := 151) (j := 0) dX9_passes_12 zK_151 (Nat.le_of_ble_eq_true rfl) rfl ?_ ?_
  · exact ⟨by decide, by decide⟩
  refine wx_aload_n (i := 0) dX9_passes_13 rfl rfl ?_
  refine wx_getRG (k := 128) (t := 151) dX9_passes_14 zF_X9_96 zKo_128 rfl (Nat.le_of_ble_eq_true rfl) zRf_128_34 ?_
  refine wx_bipush (v := 9) dX9_passes_17 (by decide) ?_
  refine wx_aload_n (i := 0) dX9_passes_19 rfl rfl ?_
  refine wx_getRG (k := 128) (t := 141) dX9_passes_20 zF_X9_65 zKo_128 rfl (Nat.le_of_ble_eq_true rfl) zRf_128_20 ?_
  refine wx_bipush (v := 8) dX9_passes_23 (by decide) ?_
  refine wx_ialdG (k := 141) (j := 8) dX9_passes_25 zK_141 (Nat.le_of_ble_eq_true rfl) rfl ?_ ?_
  · exact ⟨by decide, by decide⟩
  refine wx_iastG (k := 151) (j := 9) dX9_passes_26 zK_151 (Nat.le_of_ble_eq_true rfl) rfl ?_ ?_
  · exact ⟨by decide, by decide⟩
  refine wx_iconst (v := 0) dX9_passes_27 (by decide) ?_
  refine wx_istore_n (i := 1) dX9_passes_28 rfl (Nat.le_of_ble_eq_true rfl) rfl ?_
  have hf0 : ∀ c, c ≠ 151 → zU (zU mm 151 0 (mm 141 8)) 151 9 (zU mm 151 0 (mm 141 8) 141 8) c = mm c := fun c hc => (zU_ne hc).trans (zU_ne hc)
  refine lp_pass1 (mm := mm) hs (fun m1 hf h0 h9 hr => ?_) 8 0 _ (by omega) hf0 ((zU_off (by omega)).trans ((zU_same _ _ _ _).trans ha)) ((zU_same _ _ _ _).trans ((zU_off (by omega)).trans ha)) (fun j hj => absurd hj (Nat.not_lt_zero j))
  refine wx_iconst (v := 0) dX9_passes_55 (by decide) ?_
  refine wx_istore_n (i := 1) dX9_passes_56 rfl (Nat.le_of_ble_eq_true rfl) rfl ?_
  refine lp_pass2 (mm := m1) hb (fun m2 hf2 hs2 h8 => hK m2 (fun c h1 h2 => (hf2 c h1).trans (hf c h2)) hs2 ?_) h0 h9 hr 8 0 m1 (by omega) (fun _ _ => rfl) rfl (fun j hj => absurd hj (Nat.not_lt_zero j)) (fun j _ hj => by rw [hf 141 (by decide)]; exact hs j hj)
  rw [h8, hf 141 (by decide)]
  exact ha
/-- least and greatest of f from 0 to n - 1, as the reference goes -/
def zAn (f : Nat → Int32) : Nat → Int32
  | 0 => f 0
  | i + 1 => if f (i + 1) < zAn f i then f (i + 1) else zAn f i
def zAx (f : Nat → Int32) : Nat → Int32
  | 0 => f 0
  | i + 1 => if zAx f i < f (i + 1) then f (i + 1) else zAx f i
theorem z_nlt2 {a b : Int32} (h : a ≤ b) : ¬ b < a := Int32.not_lt.mpr h
theorem lp_apart {d : Nat} {K : List Value → zS → Prop} {mm : zM} {n : Nat} (hn : 1 ≤ n ∧ n ≤ 9) (hK : K [.int (zAx (mm 141) (n - 1) - zAn (mm 141) (n - 1))] (zG mm)) : ∀ c i : Nat, i + c = n → 1 ≤ i → wx (d) mX9_apart 17 [some (.ref 128), some (.int (nI n)), some (.int (zAn (mm 141) (i - 1))), some (.int (zAx (mm 141) (i - 1))), some (.int (nI i))] [] (zG mm) K := by
  intro c
  induction c with
  | zero =>
    intro i hi hq0
    obtain ⟨w, hw⟩ : ∃ w, i = w + 1 := ⟨i - 1, by omega⟩
    refine wx_iload dX9_apart_17 rfl ?_
    refine wx_iload_n (i := 1) dX9_apart_19 rfl rfl ?_
    refine wx_icmp_ge (tgt := 75) dX9_apart_20 (by decide) (fun h20 => ?_) (fun h20 => ?_)
    · skip
      have hin : i = n := by omega
      subst hin
      refine wx_iload_n (i := 3) dX9_apart_75 rfl rfl ?_
      refine wx_iload_n (i := 2) dX9_apart_76 rfl rfl ?_
      refine wx_isub dX9_apart_77 ?_
      refine wx_iret dX9_apart_78 rfl rfl (Or.inl rfl) ?_
      exact hK
    · exact absurd (nI_le (by omega) (by omega)) h20 --end
  | succ c ih =>
    intro i hi hq0
    obtain ⟨w, hw⟩ : ∃ w, i = w + 1 := ⟨i - 1, by omega⟩
    refine wx_iload dX9_apart_17 rfl ?_
    refine wx_iload_n (i := 1) dX9_apart_19 rfl rfl ?_
    refine wx_icmp_ge (tgt := 75) dX9_apart_20 (by decide) (fun h20 => ?_) (fun h20 => ?_)
    · exact absurd h20 (nI_ge (by omega) (by omega)) --end
    · skip
      refine wx_aload_n (i := 0) dX9_apart_23 rfl rfl ?_
      refine wx_getRG (k := 128) (t := 141) dX9_apart_24 zF_X9_65 zKo_128 rfl (Nat.le_of_ble_eq_true rfl) zRf_128_20 ?_
      refine wx_iload dX9_apart_27 rfl ?_
      refine wx_ialdG (k := 141) dX9_apart_29 zK_141 (Nat.le_of_ble_eq_true rfl) rfl ?_ ?_
      · exact ⟨by omega, by decide⟩
      refine wx_iload_n (i := 2) dX9_apart_30 rfl rfl ?_
      refine wx_icmp_ge (tgt := 44) dX9_apart_31 (by decide) (fun h31 => ?_) (fun h31 => ?_)
      · skip
        refine wx_iload_n (i := 2) dX9_apart_44 rfl rfl ?_
        refine wx_istore_n (i := 2) dX9_apart_45 rfl (Nat.le_of_ble_eq_true rfl) rfl ?_
        refine wx_aload_n (i := 0) dX9_apart_46 rfl rfl ?_
        refine wx_getRG (k := 128) (t := 141) dX9_apart_47 zF_X9_65 zKo_128 rfl (Nat.le_of_ble_eq_true rfl) zRf_128_20 ?_
        refine wx_iload dX9_apart_50 rfl ?_
        refine wx_ialdG (k := 141) dX9_apart_52 zK_141 (Nat.le_of_ble_eq_true rfl) rfl ?_ ?_
        · exact ⟨by omega, by decide⟩
        refine wx_iload_n (i := 3) dX9_apart_53 rfl rfl ?_
        refine wx_icmp_le (tgt := 67) dX9_apart_54 (by decide) (fun h54 => ?_) (fun h54 => ?_)
        · skip
          refine wx_iload_n (i := 3) dX9_apart_67 rfl rfl ?_
          refine wx_istore_n (i := 3) dX9_apart_68 rfl (Nat.le_of_ble_eq_true rfl) rfl ?_
          refine wx_inc (c := 1) dX9_apart_69 rfl (by decide) (Nat.le_of_ble_eq_true rfl) rfl ?_
          refine wx_goto (tgt := 17) dX9_apart_72 (by decide) ?_
          rw [nI_1]
          have e := ih (i + 1) (by omega) (by omega)
          rw [hw] at e h31 h54 ⊢
          simp only [Nat.add_sub_cancel] at e h31 h54 ⊢
          rw [show zAn (mm 141) (w + 1) = if mm 141 (w + 1) < zAn (mm 141) w then mm 141 (w + 1) else zAn (mm 141) w from rfl, show zAx (mm 141) (w + 1) = if zAx (mm 141) w < mm 141 (w + 1) then mm 141 (w + 1) else zAx (mm 141) w from rfl] at e
          first
            | (rw [if_pos (z_nle h31), if_pos (z_nle h54)] at e; exact e)
            | (rw [if_pos (z_nle h31), if_neg (z_nlt2 h54)] at e; exact e)
            | (rw [if_neg (z_nlt2 h31), if_pos (z_nle h54)] at e; exact e)
            | (rw [if_neg (z_nlt2 h31), if_neg (z_nlt2 h54)] at e; exact e)
        · skip
          refine wx_aload_n (i := 0) dX9_apart_57 rfl rfl ?_
          refine wx_getRG (k := 128) (t := 141) dX9_apart_58 zF_X9_65 zKo_128 rfl (Nat.le_of_ble_eq_true rfl) zRf_128_20 ?_
          refine wx_iload dX9_apart_61 rfl ?_
          refine wx_ialdG (k := 141) dX9_apart_63 zK_141 (Nat.le_of_ble_eq_true rfl) rfl ?_ ?_
          · exact ⟨by omega, by decide⟩
          refine wx_goto (tgt := 68) dX9_apart_64 (by decide) ?_
          refine wx_istore_n (i := 3) dX9_apart_68 rfl (Nat.le_of_ble_eq_true rfl) rfl ?_
          refine wx_inc (c := 1) dX9_apart_69 rfl (by decide) (Nat.le_of_ble_eq_true rfl) rfl ?_
          refine wx_goto (tgt := 17) dX9_apart_72 (by decide) ?_
          rw [nI_1]
          have e := ih (i + 1) (by omega) (by omega)
          rw [hw] at e h31 h54 ⊢
          simp only [Nat.add_sub_cancel] at e h31 h54 ⊢
          rw [show zAn (mm 141) (w + 1) = if mm 141 (w + 1) < zAn (mm 141) w then mm 141 (w + 1) else zAn (mm 141) w from rfl, show zAx (mm 141) (w + 1) = if zAx (mm 141) w < mm 141 (w + 1) then mm 141 (w + 1) else zAx (mm 141) w from rfl] at e
          first
            | (rw [if_pos (z_nle h31), if_pos (z_nle h54)] at e; exact e)
            | (rw [if_pos (z_nle h31), if_neg (z_nlt2 h54)] at e; exact e)
            | (rw [if_neg (z_nlt2 h31), if_pos (z_nle h54)] at e; exact e)
            | (rw [if_neg (z_nlt2 h31), if_neg (z_nlt2 h54)] at e; exact e)
      · skip
        refine wx_aload_n (i := 0) dX9_apart_34 rfl rfl ?_
        refine wx_getRG (k := 128) (t := 141) dX9_apart_35 zF_X9_65 zKo_128 rfl (Nat.le_of_ble_eq_true rfl) zRf_128_20 ?_
        refine wx_iload dX9_apart_38 rfl ?_
        refine wx_ialdG (k := 141) dX9_apart_40 zK_141 (Nat.le_of_ble_eq_true rfl) rfl ?_ ?_
        · exact ⟨by omega, by decide⟩
        refine wx_goto (tgt := 45) dX9_apart_41 (by decide) ?_
        refine wx_istore_n (i := 2) dX9_apart_45 rfl (Nat.le_of_ble_eq_true rfl) rfl ?_
        refine wx_aload_n (i := 0) dX9_apart_46 rfl rfl ?_
        refine wx_getRG (k := 128) (t := 141) dX9_apart_47 zF_X9_65 zKo_128 rfl (Nat.le_of_ble_eq_true rfl) zRf_128_20 ?_
        refine wx_iload dX9_apart_50 rfl ?_
        refine wx_ialdG (k := 141) dX9_apart_52 zK_141 (Nat.le_of_ble_eq_true rfl) rfl ?_ ?_
        · exact ⟨by omega, by decide⟩
        refine wx_iload_n (i := 3) dX9_apart_53 rfl rfl ?_
        refine wx_icmp_le (tgt := 67) dX9_apart_54 (by decide) (fun h54 => ?_) (fun h54 => ?_)
        · skip
          refine wx_iload_n (i := 3) dX9_apart_67 rfl rfl ?_
          refine wx_istore_n (i := 3) dX9_apart_68 rfl (Nat.le_of_ble_eq_true rfl) rfl ?_
          refine wx_inc (c := 1) dX9_apart_69 rfl (by decide) (Nat.le_of_ble_eq_true rfl) rfl ?_
          refine wx_goto (tgt := 17) dX9_apart_72 (by decide) ?_
          rw [nI_1]
          have e := ih (i + 1) (by omega) (by omega)
          rw [hw] at e h31 h54 ⊢
          simp only [Nat.add_sub_cancel] at e h31 h54 ⊢
          rw [show zAn (mm 141) (w + 1) = if mm 141 (w + 1) < zAn (mm 141) w then mm 141 (w + 1) else zAn (mm 141) w from rfl, show zAx (mm 141) (w + 1) = if zAx (mm 141) w < mm 141 (w + 1) then mm 141 (w + 1) else zAx (mm 141) w from rfl] at e
          first
            | (rw [if_pos (z_nle h31), if_pos (z_nle h54)] at e; exact e)
            | (rw [if_pos (z_nle h31), if_neg (z_nlt2 h54)] at e; exact e)
            | (rw [if_neg (z_nlt2 h31), if_pos (z_nle h54)] at e; exact e)
            | (rw [if_neg (z_nlt2 h31), if_neg (z_nlt2 h54)] at e; exact e)
        · skip
          refine wx_aload_n (i := 0) dX9_apart_57 rfl rfl ?_
          refine wx_getRG (k := 128) (t := 141) dX9_apart_58 zF_X9_65 zKo_128 rfl (Nat.le_of_ble_eq_true rfl) zRf_128_20 ?_
          refine wx_iload dX9_apart_61 rfl ?_
          refine wx_ialdG (k := 141) dX9_apart_63 zK_141 (Nat.le_of_ble_eq_true rfl) rfl ?_ ?_
          · exact ⟨by omega, by decide⟩
          refine wx_goto (tgt := 68) dX9_apart_64 (by decide) ?_
          refine wx_istore_n (i := 3) dX9_apart_68 rfl (Nat.le_of_ble_eq_true rfl) rfl ?_
          refine wx_inc (c := 1) dX9_apart_69 rfl (by decide) (Nat.le_of_ble_eq_true rfl) rfl ?_
          refine wx_goto (tgt := 17) dX9_apart_72 (by decide) ?_
          rw [nI_1]
          have e := ih (i + 1) (by omega) (by omega)
          rw [hw] at e h31 h54 ⊢
          simp only [Nat.add_sub_cancel] at e h31 h54 ⊢
          rw [show zAn (mm 141) (w + 1) = if mm 141 (w + 1) < zAn (mm 141) w then mm 141 (w + 1) else zAn (mm 141) w from rfl, show zAx (mm 141) (w + 1) = if zAx (mm 141) w < mm 141 (w + 1) then mm 141 (w + 1) else zAx (mm 141) w from rfl] at e
          first
            | (rw [if_pos (z_nle h31), if_pos (z_nle h54)] at e; exact e)
            | (rw [if_pos (z_nle h31), if_neg (z_nlt2 h54)] at e; exact e)
            | (rw [if_neg (z_nlt2 h31), if_pos (z_nle h54)] at e; exact e)
            | (rw [if_neg (z_nlt2 h31), if_neg (z_nlt2 h54)] at e; exact e)
theorem s_X9_apart {d : Nat} {K : List Value → zS → Prop} {mm : zM} {n : Nat} (hn : 1 ≤ n ∧ n ≤ 9) (hK : K [.int (zAx (mm 141) (n - 1) - zAn (mm 141) (n - 1))] (zG mm)) : wm (d) mX9_apart [.ref 128, .int (nI n)] (zG mm) K := by
  refine wm_of2 (L0 := [some (.ref 128), some (.int (nI n)), none, none, none]) zCm_X9_apart (Or.inl rfl) (Nat.le_of_ble_eq_true rfl) rfl ?_
  refine wx_aload_n (i := 0) dX9_apart_0 rfl rfl ?_
  refine wx_getRG (k := 128) (t := 141) dX9_apart_1 zF_X9_65 zKo_128 rfl (Nat.le_of_ble_eq_true rfl) zRf_128_20 ?_
  refine wx_iconst (v := 0) dX9_apart_4 (by decide) ?_
  refine wx_ialdG (k := 141) (j := 0) dX9_apart_5 zK_141 (Nat.le_of_ble_eq_true rfl) rfl ?_ ?_
  · exact ⟨by decide, by decide⟩
  refine wx_istore_n (i := 2) dX9_apart_6 rfl (Nat.le_of_ble_eq_true rfl) rfl ?_
  refine wx_aload_n (i := 0) dX9_apart_7 rfl rfl ?_
  refine wx_getRG (k := 128) (t := 141) dX9_apart_8 zF_X9_65 zKo_128 rfl (Nat.le_of_ble_eq_true rfl) zRf_128_20 ?_
  refine wx_iconst (v := 0) dX9_apart_11 (by decide) ?_
  refine wx_ialdG (k := 141) (j := 0) dX9_apart_12 zK_141 (Nat.le_of_ble_eq_true rfl) rfl ?_ ?_
  · exact ⟨by decide, by decide⟩
  refine wx_istore_n (i := 3) dX9_apart_13 rfl (Nat.le_of_ble_eq_true rfl) rfl ?_
  refine wx_iconst (v := 1) dX9_apart_14 (by decide) ?_
  refine wx_istore dX9_apart_15 (Nat.le_of_ble_eq_true rfl) rfl ?_
  exact lp_apart hn hK (n - 1) 1 (by omega) (by omega)
