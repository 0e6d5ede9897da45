/-! the curve and its depth, of both -/
/-- a long by its number -/
def zq (z : Int) : Int64 := Int64.ofInt z
theorem zq_add (a b : Int) : zq a + zq b = zq (a + b) := (Int64.ofInt_add a b).symm
theorem zq_mul (a b : Int) : zq a * zq b = zq (a * b) := (Int64.ofInt_mul a b).symm
theorem zq_neg (a : Int) : - zq a = zq (-a) := (Int64.ofInt_neg a).symm
theorem zq_sub (a b : Int) : zq a - zq b = zq (a - b) := (Int64.ofInt_sub a b).symm
theorem zq_toInt {z : Int} (h : -9000000000000000000 ≤ z ∧ z ≤ 9000000000000000000) : (zq z).toInt = z := Int64.toInt_ofInt_of_le (by simp; omega) (by simp; omega)
theorem zq_lt {a b : Int} (h : -9000000000000000000 ≤ a ∧ a ≤ 9000000000000000000) (g : -9000000000000000000 ≤ b ∧ b ≤ 9000000000000000000) : zq a < zq b ↔ a < b := by rw [Int64.lt_iff_toInt_lt, zq_toInt h, zq_toInt g]
theorem zq_eq {a b : Int} (h : -9000000000000000000 ≤ a ∧ a ≤ 9000000000000000000) (g : -9000000000000000000 ≤ b ∧ b ≤ 9000000000000000000) : zq a = zq b ↔ a = b := ⟨fun w => by rw [← zq_toInt h, ← zq_toInt g, w], fun w => by rw [w]⟩
theorem zq_cmp {a b : Int} (h : -9000000000000000000 ≤ a ∧ a ≤ 9000000000000000000) (g : -9000000000000000000 ≤ b ∧ b ≤ 9000000000000000000) : lg_cmp (zq a) (zq b) = if b < a then 1 else if a = b then 0 else -1 := by
  unfold lg_cmp
  show (if zq b < zq a then (1 : Int32) else if zq a = zq b then 0 else -1) = _
  by_cases q : b < a
  · rw [if_pos q, if_pos ((zq_lt g h).mpr q)]
  · rw [if_neg q, if_neg (fun w => q ((zq_lt g h).mp w))]
    by_cases e : a = b
    · rw [if_pos e, if_pos (by rw [e])]
    · rw [if_neg e, if_neg (fun w => e ((zq_eq h g).mp w))]
theorem zq_cge {a b : Int} (h : -9000000000000000000 ≤ a ∧ a ≤ 9000000000000000000) (g : -9000000000000000000 ≤ b ∧ b ≤ 9000000000000000000) : 0 ≤ lg_cmp (zq a) (zq b) ↔ b ≤ a := by
  rw [zq_cmp h g]
  by_cases q : b < a
  · rw [if_pos q]; exact ⟨fun _ => by omega, fun _ => by decide⟩
  · rw [if_neg q]
    by_cases e : a = b
    · rw [if_pos e]; exact ⟨fun _ => by omega, fun _ => by decide⟩
    · rw [if_neg e]; exact ⟨fun w => absurd w (by decide), fun w => by omega⟩
theorem zq_ceq {a b : Int} (h : -9000000000000000000 ≤ a ∧ a ≤ 9000000000000000000) (g : -9000000000000000000 ≤ b ∧ b ≤ 9000000000000000000) : lg_cmp (zq a) (zq b) = 0 ↔ a = b := by
  rw [zq_cmp h g]
  by_cases q : b < a
  · rw [if_pos q]; exact ⟨fun w => absurd w (by decide), fun w => by omega⟩
  · rw [if_neg q]
    by_cases e : a = b
    · rw [if_pos e]; exact ⟨fun _ => e, fun _ => rfl⟩
    · rw [if_neg e]; exact ⟨fun w => absurd w (by decide), fun w => absurd w e⟩
theorem zq_div {a b : Nat} (ha : a ≤ 9000000000000000000) (hb : b ≤ 9000000000000000000) : zq a / zq b = zq ((a / b : Nat) : Int) := by
  apply Int64.toInt_inj.mp
  have hd : a / b ≤ a := Nat.div_le_self a b
  have e : (a : Int).tdiv (b : Int) = ((a / b : Nat) : Int) := by
    rw [Int.tdiv_eq_ediv_of_nonneg (by omega)]
    rfl
  rw [Int64.toInt_div, zq_toInt (by omega), zq_toInt (by omega), e]
  generalize a / b = q at hd ⊢
  rw [zq_toInt (by omega)]
  exact Int.bmod_eq_of_le (by omega) (by omega)
theorem zq_rem {a b : Nat} (ha : a ≤ 9000000000000000000) (hb : b ≤ 9000000000000000000) : zq a - zq a / zq b * zq b = zq ((a % b : Nat) : Int) := by
  rw [zq_div ha hb, zq_mul, zq_sub]
  congr 1
  have := Nat.div_add_mod a b
  rw [Nat.mul_comm] at this
  have e : ((a / b * b + a % b : Nat) : Int) = (a : Int) := by rw [this]
  rw [Int.natCast_add, Int.natCast_mul] at e
  omega
theorem zq_i2l {a : Int} (h1 : -2147483648 ≤ a) (h2 : a < 2147483648) : (zi a).toInt64 = zq a := by
  apply Int64.toInt_inj.mp
  rw [Int32.toInt_toInt64, zi_toInt h1 h2, zq_toInt (by omega)]
theorem zq_abs {t : Int} {e : Int64} (he : e = zq t) (h : -9000000000000000000 ≤ t ∧ t ≤ 9000000000000000000) : (if 0 ≤ lg_cmp e 0 then e else -e) = zq (t.natAbs : Int) := by
  rw [he, show (0 : Int64) = zq 0 by decide]
  by_cases q : 0 ≤ t
  · rw [if_pos ((zq_cge h (by omega)).mpr q), Int.natAbs_of_nonneg q]
  · rw [if_neg (fun w => q ((zq_cge h (by omega)).mp w)), zq_neg]
    congr 1
    omega
/-- so many rounds bring the second to 0 -/
def zGs : Nat → Nat → Nat → Prop
  | 0, _, b => b = 0
  | n + 1, a, b => b = 0 ∨ zGs n b (a % b)
theorem zGs_0 : ∀ n a : Nat, zGs n a 0
  | 0, _ => rfl
  | _ + 1, _ => Or.inl rfl
theorem zGs_2 : ∀ (k a b : Nat), b < 2 ^ k → zGs (2 * k) a b
  | 0, a, b, h => by have : b < 1 := h; show b = 0; omega
  | k + 1, a, b, h => by
    by_cases h0 : b = 0
    · subst h0; exact zGs_0 _ _
    refine Or.inr ?_
    show zGs (2 * k + 1) b (a % b)
    by_cases h1 : a % b = 0
    · rw [h1]; exact zGs_0 _ _
    refine Or.inr (zGs_2 k _ _ ?_)
    have l1 : a % b < b := Nat.mod_lt a (by omega)
    have l2 : b % (a % b) < a % b := Nat.mod_lt b (by omega)
    have l3 : b % (a % b) ≤ b - a % b := by
      rw [Nat.mod_eq_sub_mod (by omega)]
      exact Nat.mod_le _ _
    have l4 : b < 2 * 2 ^ k := by rw [Nat.mul_comm]; exact h
    omega
theorem lp_sd {d : Nat} {K : List Value → zS → Prop} {σ : zS} : ∀ (c i a b : Nat) (x : Option Value), i + c = 200 → zGs c a b → a ≤ 9000000000000000000 → b ≤ 9000000000000000000 → K [.long (zq (Nat.gcd a b : Int))] σ → wx d mX1_sharedDivisor 3 [some (.long (zq (a : Int))), none, some (.long (zq (b : Int))), none, some (.int (nI i)), x, none] [] σ K := by
  intro c
  induction c with
  | zero =>
    intro i a b x hi hg ha hb hK
    have h0 : b = 0 := hg
    have hin : i = 200 := by omega
    subst h0 hin
    rw [Nat.gcd_zero_right] at hK
    refine wx_iload dX1_sharedDivisor_3 rfl ?_
    refine wx_sipush (v := 200) dX1_sharedDivisor_5 (by decide) ?_
    refine wx_icmp_ge (tgt := 33) dX1_sharedDivisor_8 (by decide) (fun h8 => ?_) (fun h8 => ?_)
    · skip
      refine wx_lload_n (i := 0) dX1_sharedDivisor_33 rfl rfl ?_
      refine wx_lret dX1_sharedDivisor_34 rfl (Or.inl rfl) ?_
      exact hK
    · exact absurd (show nI 200 ≤ nI 200 from nI_le (by omega) (by omega)) h8 --end
  | succ c ih =>
    intro i a b x hi hg ha hb hK
    by_cases h0 : b = 0
    · subst h0
      rw [Nat.gcd_zero_right] at hK
      refine wx_iload dX1_sharedDivisor_3 rfl ?_
      refine wx_sipush (v := 200) dX1_sharedDivisor_5 (by decide) ?_
      refine wx_icmp_ge (tgt := 33) dX1_sharedDivisor_8 (by decide) (fun h8 => ?_) (fun h8 => ?_)
      · exact absurd (show nI 200 ≤ nI i from h8) (nI_ge (by omega) (by omega)) --end
      · skip
        refine wx_lload_n (i := 2) dX1_sharedDivisor_11 rfl rfl ?_
        refine wx_lconst (v := 0) dX1_sharedDivisor_12 (by decide) ?_
        refine wx_lcmp dX1_sharedDivisor_13 ?_
        refine wx_if_eq (tgt := 33) dX1_sharedDivisor_14 (by decide) (fun h14 => ?_) (fun h14 => ?_)
        · skip
          refine wx_lload_n (i := 0) dX1_sharedDivisor_33 rfl rfl ?_
          refine wx_lret dX1_sharedDivisor_34 rfl (Or.inl rfl) ?_
          exact hK
        · rw [show (0 : Int64) = zq 0 by decide, zq_ceq (by omega) (by omega)] at h14
          exact absurd rfl h14 --end
    have hgg : zGs c b (a % b) := by
      rcases hg with q | q
      · exact absurd q h0
      · exact q
    have hlt : a % b < b := Nat.mod_lt a (by omega)
    rw [show Nat.gcd a b = Nat.gcd b (a % b) by rw [Nat.gcd_comm a b, Nat.gcd_rec b a, Nat.gcd_comm]] at hK
    refine wx_iload dX1_sharedDivisor_3 rfl ?_
    refine wx_sipush (v := 200) dX1_sharedDivisor_5 (by decide) ?_
    refine wx_icmp_ge (tgt := 33) dX1_sharedDivisor_8 (by decide) (fun h8 => ?_) (fun h8 => ?_)
    · exact absurd (show nI 200 ≤ nI i from h8) (nI_ge (by omega) (by omega)) --end
    · skip
      refine wx_lload_n (i := 2) dX1_sharedDivisor_11 rfl rfl ?_
      refine wx_lconst (v := 0) dX1_sharedDivisor_12 (by decide) ?_
      refine wx_lcmp dX1_sharedDivisor_13 ?_
      refine wx_if_eq (tgt := 33) dX1_sharedDivisor_14 (by decide) (fun h14 => ?_) (fun h14 => ?_)
      · rw [show (0 : Int64) = zq 0 by decide, zq_ceq (by omega) (by omega)] at h14
        exact absurd (by omega : b = 0) h0 --end
      · skip
        refine wx_lload_n (i := 0) dX1_sharedDivisor_17 rfl rfl ?_
        refine wx_lload_n (i := 2) dX1_sharedDivisor_18 rfl rfl ?_
        refine wx_lrem dX1_sharedDivisor_19 ?_ ?_
        · exact fun w => h0 (by rw [show (0 : Int64) = zq 0 by decide, zq_eq (by omega) (by omega)] at w; omega)
        refine wx_lstore dX1_sharedDivisor_20 (Nat.le_of_ble_eq_true rfl) rfl ?_
        refine wx_lload_n (i := 2) dX1_sharedDivisor_22 rfl rfl ?_
        refine wx_lstore_n (i := 0) dX1_sharedDivisor_23 rfl (Nat.le_of_ble_eq_true rfl) rfl ?_
        refine wx_lload dX1_sharedDivisor_24 rfl ?_
        refine wx_lstore_n (i := 2) dX1_sharedDivisor_26 rfl (Nat.le_of_ble_eq_true rfl) rfl ?_
        refine wx_inc (c := 1) dX1_sharedDivisor_27 rfl (by decide) (Nat.le_of_ble_eq_true rfl) rfl ?_
        refine wx_goto (tgt := 3) dX1_sharedDivisor_30 (by decide) ?_
        rw [nI_1, zq_rem ha hb]
        exact ih (i + 1) b (a % b) _ (by omega) hgg hb (by omega) hK
theorem zGs_mono {m n : Nat} (h : m ≤ n) {a b : Nat} : zGs m a b → zGs n a b := by
  induction m generalizing n a b with
  | zero =>
    intro w
    have h0 : b = 0 := w
    subst h0
    exact zGs_0 n a
  | succ m ih =>
    intro w
    obtain ⟨n, rfl⟩ : ∃ q, n = q + 1 := ⟨n - 1, by omega⟩
    rcases w with q | q
    · exact Or.inl q
    · exact Or.inr (ih (by omega) q)
theorem s_X1_sharedDivisor {d : Nat} {K : List Value → zS → Prop} {σ : zS} {x y : Int64} {a b : Nat} (hx : x = zq (a : Int)) (hy : y = zq (b : Int)) (ha : a ≤ 9000000000000000000) (hb : b ≤ 9000000000000000000) (hK : K [.long (zq (Nat.gcd a b : Int))] σ) : wm d mX1_sharedDivisor [.long x, .long y] σ K := by
  subst hx hy
  refine wm_of2 (L0 := [some (.long (zq (a : Int))), none, some (.long (zq (b : Int))), none, none, none, none]) zCm_X1_sharedDivisor (Or.inl rfl) (Nat.le_of_ble_eq_true rfl) rfl ?_
  refine wx_iconst (v := 0) dX1_sharedDivisor_0 (by decide) ?_
  refine wx_istore dX1_sharedDivisor_1 (Nat.le_of_ble_eq_true rfl) rfl ?_
  have hg : zGs 200 a b := by
    have h2 := zGs_2 64 a b (by omega)
    exact zGs_mono (show 2 * 64 ≤ 200 by omega) h2
  exact lp_sd 200 0 a b _ (by omega) hg ha hb hK
theorem lp_cm {d : Nat} {K : List Value → zS → Prop} {σ : zS} {x y : Int64} : ∀ (n a b : Nat) (z : Option Value), b < n → a ≤ 9000000000000000000 → b ≤ 9000000000000000000 → K [.long (zq (Nat.gcd a b : Int))] σ → wx d mX9_common 17 [some (.long x), none, some (.long y), none, some (.long (zq (a : Int))), none, some (.long (zq (b : Int))), none, z, none] [] σ K := by
  intro n
  induction n with
  | zero => intro a b z h; exact absurd h (Nat.not_lt_zero _)
  | succ n ih =>
    intro a b z hbn ha hb hK
    by_cases h0 : b = 0
    · subst h0
      rw [Nat.gcd_zero_right] at hK
      refine wx_lload dX9_common_17 rfl ?_
      refine wx_lconst (v := 0) dX9_common_19 (by decide) ?_
      refine wx_lcmp dX9_common_20 ?_
      refine wx_if_eq (tgt := 42) dX9_common_21 (by decide) (fun h21 => ?_) (fun h21 => ?_)
      · skip
        refine wx_lload dX9_common_42 rfl ?_
        refine wx_lret dX9_common_44 rfl (Or.inl rfl) ?_
        exact hK
      · rw [show (0 : Int64) = zq 0 by decide, zq_ceq (by omega) (by omega)] at h21
        exact absurd rfl h21 --end
    have hlt : a % b < b := Nat.mod_lt a (by omega)
    rw [show Nat.gcd a b = Nat.gcd b (a % b) by rw [Nat.gcd_comm a b, Nat.gcd_rec b a, Nat.gcd_comm]] at hK
    refine wx_lload dX9_common_17 rfl ?_
    refine wx_lconst (v := 0) dX9_common_19 (by decide) ?_
    refine wx_lcmp dX9_common_20 ?_
    refine wx_if_eq (tgt := 42) dX9_common_21 (by decide) (fun h21 => ?_) (fun h21 => ?_)
    · rw [show (0 : Int64) = zq 0 by decide, zq_ceq (by omega) (by omega)] at h21
      exact absurd (by omega : b = 0) h0 --end
    · skip
      refine wx_lload dX9_common_24 rfl ?_
      refine wx_lload dX9_common_26 rfl ?_
      refine wx_lrem dX9_common_28 ?_ ?_
      · exact fun w => h0 (by rw [show (0 : Int64) = zq 0 by decide, zq_eq (by omega) (by omega)] at w; omega)
      refine wx_lstore dX9_common_29 (Nat.le_of_ble_eq_true rfl) rfl ?_
      refine wx_lload dX9_common_31 rfl ?_
      refine wx_lstore dX9_common_33 (Nat.le_of_ble_eq_true rfl) rfl ?_
      refine wx_lload dX9_common_35 rfl ?_
      refine wx_lstore dX9_common_37 (Nat.le_of_ble_eq_true rfl) rfl ?_
      refine wx_goto (tgt := 17) dX9_common_39 (by decide) ?_
      rw [zq_rem ha hb]
      exact ih b (a % b) _ (by omega) hb (by omega) hK
theorem s_X9_common {d : Nat} {K : List Value → zS → Prop} {σ : zS} {x y : Int64} {t : Int} {b : Nat} (hx : x = zq t) (hy : y = zq (b : Int)) (ht : -9000000000000000000 ≤ t ∧ t ≤ 9000000000000000000) (hb : b ≤ 9000000000000000000) (hK : K [.long (zq (Nat.gcd t.natAbs b : Int))] σ) : wm d mX9_common [.long x, .long y] σ K := by
  have hab := zq_abs hx ht
  subst hy
  refine wm_of2 (L0 := [some (.long x), none, some (.long (zq (b : Int))), none, none, none, none, none, none, none]) zCm_X9_common (Or.inl rfl) (Nat.le_of_ble_eq_true rfl) rfl ?_
  refine wx_lload_n (i := 0) dX9_common_0 rfl rfl ?_
  refine wx_lconst (v := 0) dX9_common_1 (by decide) ?_
  refine wx_lcmp dX9_common_2 ?_
  refine wx_if_ge (tgt := 11) dX9_common_3 (by decide) (fun h3 => ?_) (fun h3 => ?_)
  · rw [if_pos h3] at hab
    refine wx_lload_n (i := 0) dX9_common_11 rfl rfl ?_
    refine wx_lstore dX9_common_12 (Nat.le_of_ble_eq_true rfl) rfl ?_
    refine wx_lload_n (i := 2) dX9_common_14 rfl rfl ?_
    refine wx_lstore dX9_common_15 (Nat.le_of_ble_eq_true rfl) rfl ?_
    rw [hab]
    exact lp_cm (b + 1) t.natAbs b _ (by omega) (by omega) hb hK
  · rw [if_neg h3] at hab
    refine wx_lload_n (i := 0) dX9_common_6 rfl rfl ?_
    refine wx_lneg dX9_common_7 ?_
    refine wx_goto (tgt := 12) dX9_common_8 (by decide) ?_
    refine wx_lstore dX9_common_12 (Nat.le_of_ble_eq_true rfl) rfl ?_
    refine wx_lload_n (i := 2) dX9_common_14 rfl rfl ?_
    refine wx_lstore dX9_common_15 (Nat.le_of_ble_eq_true rfl) rfl ?_
    rw [hab]
    exact lp_cm (b + 1) t.natAbs b _ (by omega) (by omega) hb hK
def zTop (r R A B : Int) : Int := 4 * B * (R * R) * (r * r) + (A + B) * (r * r) * (r * r)
def zBot (R B : Int) : Int := 8 * B * (R * R) * R
theorem zBx {a b x y : Int} (ha : 0 ≤ a ∧ a ≤ x) (hb : 0 ≤ b ∧ b ≤ y) : 0 ≤ a * b ∧ a * b ≤ x * y := ⟨Int.mul_nonneg ha.1 hb.1, Int.mul_le_mul ha.2 hb.2 hb.1 (by omega)⟩
theorem zBy {a b x y : Int} (ha : -x ≤ a ∧ a ≤ x) (hb : 0 ≤ b ∧ b ≤ y) : -(x * y) ≤ a * b ∧ a * b ≤ x * y := by
  have hx : 0 ≤ x := by omega
  refine ⟨?_, ?_⟩
  · have h1 : -x * y ≤ -x * b := Int.mul_le_mul_of_nonpos_left (by omega) hb.2
    have h2 : -x * b ≤ a * b := Int.mul_le_mul_of_nonneg_right ha.1 hb.1
    rw [Int.neg_mul] at h1
    omega
  · exact Int.mul_le_mul ha.2 hb.2 hb.1 hx
theorem zTop_bd {r R A B : Int} (hr : 0 ≤ r ∧ r ≤ 200) (hR : 100 ≤ R ∧ R ≤ 5000) (hA : -30 ≤ A ∧ A ≤ 30) (hB : 1 ≤ B ∧ B ≤ 10) : -900000000000000 ≤ zTop r R A B ∧ zTop r R A B ≤ 900000000000000 := by
  have hs : 0 ≤ r * r ∧ r * r ≤ 200 * 200 := zBx hr hr
  have hq : 0 ≤ R * R ∧ R * R ≤ 5000 * 5000 := zBx ⟨by omega, hR.2⟩ ⟨by omega, hR.2⟩
  have h1 : 0 ≤ 4 * B * (R * R) ∧ 4 * B * (R * R) ≤ 40 * (5000 * 5000) := zBx ⟨by omega, by omega⟩ hq
  have h2 := zBx h1 hs
  have h3 : -(40 * (200 * 200)) ≤ (A + B) * (r * r) ∧ (A + B) * (r * r) ≤ 40 * (200 * 200) := zBy ⟨by omega, by omega⟩ hs
  have h4 := zBy h3 hs
  unfold zTop
  generalize 4 * B * (R * R) * (r * r) = u at h2
  generalize (A + B) * (r * r) * (r * r) = v at h4
  omega
theorem zBot_bd {R B : Int} (hR : 100 ≤ R ∧ R ≤ 5000) (hB : 1 ≤ B ∧ B ≤ 10) : 0 < zBot R B ∧ zBot R B ≤ 90000000000000 := by
  have hq : 0 ≤ R * R ∧ R * R ≤ 5000 * 5000 := zBx ⟨by omega, hR.2⟩ ⟨by omega, hR.2⟩
  have h1 : 0 ≤ 8 * B * (R * R) ∧ 8 * B * (R * R) ≤ 80 * (5000 * 5000) := zBx ⟨by omega, by omega⟩ hq
  have h2 : 0 ≤ 8 * B * (R * R) * R ∧ 8 * B * (R * R) * R ≤ 80 * (5000 * 5000) * 5000 := zBx h1 ⟨by omega, hR.2⟩
  refine ⟨?_, by unfold zBot; omega⟩
  unfold zBot
  exact Int.mul_pos (Int.mul_pos (by omega) (Int.mul_pos (by omega) (by omega))) (by omega)
theorem zTopC {r R A B : Int} {x y z w : Int32} (hx : x = zi r) (hy : y = zi R) (hz : z = zi A) (hw : w = zi B) (hr : 0 ≤ r ∧ r ≤ 200) (hR : 100 ≤ R ∧ R ≤ 5000) (hA : -30 ≤ A ∧ A ≤ 30) (hB : 1 ≤ B ∧ B ≤ 10) : 4 * w.toInt64 * y.toInt64 * y.toInt64 * (x.toInt64 * x.toInt64) + (z + w).toInt64 * (x.toInt64 * x.toInt64) * (x.toInt64 * x.toInt64) = zq (zTop r R A B) := by
  subst hx hy hz hw
  rw [zi_add, zq_i2l (by omega) (by omega), zq_i2l (by omega) (by omega), zq_i2l (by omega) (by omega), zq_i2l (by omega) (by omega), show (4 : Int64) = zq 4 by decide]
  simp only [zq_mul, zq_add]
  unfold zTop
  rw [Int.mul_assoc (4 * B) R R]
theorem zBotC {R B : Int} {y w : Int32} (hy : y = zi R) (hw : w = zi B) (hR : 100 ≤ R ∧ R ≤ 5000) (hB : 1 ≤ B ∧ B ≤ 10) : 8 * w.toInt64 * y.toInt64 * y.toInt64 * y.toInt64 = zq (zBot R B) := by
  subst hy hw
  rw [zq_i2l (by omega) (by omega), zq_i2l (by omega) (by omega), show (8 : Int64) = zq 8 by decide]
  simp only [zq_mul]
  unfold zBot
  rw [Int.mul_assoc (8 * B) R R]
theorem zTopM {r R A B : Int} {x y z w : Int32} (hx : x = zi r) (hy : y = zi R) (hz : z = zi A) (hw : w = zi B) (hr : 0 ≤ r ∧ r ≤ 200) (hR : 100 ≤ R ∧ R ≤ 5000) (hA : -30 ≤ A ∧ A ≤ 30) (hB : 1 ≤ B ∧ B ≤ 10) : 4 * w.toInt64 * (y.toInt64 * y.toInt64) * (x.toInt64 * x.toInt64) + (z + w).toInt64 * (x.toInt64 * x.toInt64) * (x.toInt64 * x.toInt64) = zq (zTop r R A B) := by
  rw [← Int64.mul_assoc (4 * w.toInt64)]
  exact zTopC hx hy hz hw hr hR hA hB
theorem zBotM {R B : Int} {y w : Int32} (hy : y = zi R) (hw : w = zi B) (hR : 100 ≤ R ∧ R ≤ 5000) (hB : 1 ≤ B ∧ B ≤ 10) : 8 * w.toInt64 * (y.toInt64 * y.toInt64) * y.toInt64 = zq (zBot R B) := by
  rw [← Int64.mul_assoc (8 * w.toInt64)]
  exact zBotC hy hw hR hB
/-- the depth's part -/
def zDp (r R A B : Int) (p : Prop) [Decidable p] : Int64 := zq (if p then zTop r R A B else zBot R B) / zq (Nat.gcd (zTop r R A B).natAbs (zBot R B).toNat : Int)
theorem s_X1_become {d : Nat} {K : List Value → zS → Prop} {mm : zM} {a b c : Int32} (hK : K [] (zG (zU (zU (zU mm 1 0 a) 1 1 b) 1 2 c))) : wm (d) mX1_become [.ref 1, .int a, .int b, .int c] (zG mm) K := by
  refine wm_of2 (L0 := [some (.ref 1), some (.int a), some (.int b), some (.int c)]) zCm_X1_become (Or.inl rfl) (Nat.le_of_ble_eq_true rfl) rfl ?_
  refine wx_aload_n (i := 0) dX1_become_0 rfl rfl ?_
  refine wx_iload_n (i := 1) dX1_become_1 rfl rfl ?_
  refine wx_putIG (k := 1) dX1_become_2 zF_X1_9 zKo_1 rfl (Nat.le_of_ble_eq_true rfl) rfl rfl ?_
  refine wx_aload_n (i := 0) dX1_become_5 rfl rfl ?_
  refine wx_iload_n (i := 2) dX1_become_6 rfl rfl ?_
  refine wx_putIG (k := 1) dX1_become_7 zF_X1_15 zKo_1 rfl (Nat.le_of_ble_eq_true rfl) rfl rfl ?_
  refine wx_aload_n (i := 0) dX1_become_10 rfl rfl ?_
  refine wx_iload_n (i := 3) dX1_become_11 rfl rfl ?_
  refine wx_putIG (k := 1) dX1_become_12 zF_X1_18 zKo_1 rfl (Nat.le_of_ble_eq_true rfl) rfl rfl ?_
  refine wx_vret dX1_become_15 rfl (Or.inl rfl) ?_
  exact hK
theorem s_X1_depthAt {d : Nat} {K : List Value → zS → Prop} {mm : zM} {r R A B : Int} {b : Int32} (m0 : mm 1 0 = zi R) (m1 : mm 1 1 = zi A) (m2 : mm 1 2 = zi B) (hr : 0 ≤ r ∧ r ≤ 200) (hR : 100 ≤ R ∧ R ≤ 5000) (hA : -30 ≤ A ∧ A ≤ 30) (hB : 1 ≤ B ∧ B ≤ 10) (hK : K [.long (zDp r R A B (¬ b = 0))] (zG mm)) : wm (d + 2) mX1_depthAt [.ref 1, .int (zi r), .int b] (zG mm) K := by
  have hT := zTop_bd hr hR hA hB
  have hBo := zBot_bd hR hB
  have hg0 : 0 < Nat.gcd (zTop r R A B).natAbs (zBot R B).toNat := Nat.gcd_pos_of_pos_right _ (by omega)
  have hg1 : Nat.gcd (zTop r R A B).natAbs (zBot R B).toNat ≤ (zBot R B).toNat := Nat.le_of_dvd (by omega) (Nat.gcd_dvd_right _ _)
  have hgz : ¬ zq (Nat.gcd (zTop r R A B).natAbs (zBot R B).toNat : Int) = 0 := fun w => by
    rw [show (0 : Int64) = zq 0 by decide, zq_eq (by omega) (by omega)] at w
    omega
  refine wm_of2 (L0 := [some (.ref 1), some (.int (zi r)), some (.int b), none, none, none, none, none, none, none, none]) zCm_X1_depthAt (Or.inl rfl) (Nat.le_of_ble_eq_true rfl) rfl ?_
  refine wx_iload_n (i := 1) dX1_depthAt_0 rfl rfl ?_
  refine wx_i2l dX1_depthAt_1 ?_
  refine wx_iload_n (i := 1) dX1_depthAt_2 rfl rfl ?_
  refine wx_i2l dX1_depthAt_3 ?_
  refine wx_lmul dX1_depthAt_4 ?_
  refine wx_lstore_n (i := 3) dX1_depthAt_5 rfl (Nat.le_of_ble_eq_true rfl) rfl ?_
  refine wx_ldc2 dX1_depthAt_6 zKc_X1_21 ?_
  refine wx_aload_n (i := 0) dX1_depthAt_9 rfl rfl ?_
  refine wx_getIG (k := 1) dX1_depthAt_10 zF_X1_18 zKo_1 rfl (Nat.le_of_ble_eq_true rfl) ?_
  refine wx_i2l dX1_depthAt_13 ?_
  refine wx_lmul dX1_depthAt_14 ?_
  refine wx_aload_n (i := 0) dX1_depthAt_15 rfl rfl ?_
  refine wx_getIG (k := 1) dX1_depthAt_16 zF_X1_9 zKo_1 rfl (Nat.le_of_ble_eq_true rfl) ?_
  refine wx_i2l dX1_depthAt_19 ?_
  refine wx_lmul dX1_depthAt_20 ?_
  refine wx_aload_n (i := 0) dX1_depthAt_21 rfl rfl ?_
  refine wx_getIG (k := 1) dX1_depthAt_22 zF_X1_9 zKo_1 rfl (Nat.le_of_ble_eq_true rfl) ?_
  refine wx_i2l dX1_depthAt_25 ?_
  refine wx_lmul dX1_depthAt_26 ?_
  refine wx_lload_n (i := 3) dX1_depthAt_27 rfl rfl ?_
  refine wx_lmul dX1_depthAt_28 ?_
  refine wx_aload_n (i := 0) dX1_depthAt_29 rfl rfl ?_
  refine wx_getIG (k := 1) dX1_depthAt_30 zF_X1_15 zKo_1 rfl (Nat.le_of_ble_eq_true rfl) ?_
  refine wx_aload_n (i := 0) dX1_depthAt_33 rfl rfl ?_
  refine wx_getIG (k := 1) dX1_depthAt_34 zF_X1_18 zKo_1 rfl (Nat.le_of_ble_eq_true rfl) ?_
  refine wx_iadd dX1_depthAt_37 ?_
  refine wx_i2l dX1_depthAt_38 ?_
  refine wx_lload_n (i := 3) dX1_depthAt_39 rfl rfl ?_
  refine wx_lmul dX1_depthAt_40 ?_
  refine wx_lload_n (i := 3) dX1_depthAt_41 rfl rfl ?_
  refine wx_lmul dX1_depthAt_42 ?_
  refine wx_ladd dX1_depthAt_43 ?_
  refine wx_lstore dX1_depthAt_44 (Nat.le_of_ble_eq_true rfl) rfl ?_
  refine wx_ldc2 dX1_depthAt_46 zKc_X1_23 ?_
  refine wx_aload_n (i := 0) dX1_depthAt_49 rfl rfl ?_
  refine wx_getIG (k := 1) dX1_depthAt_50 zF_X1_18 zKo_1 rfl (Nat.le_of_ble_eq_true rfl) ?_
  refine wx_i2l dX1_depthAt_53 ?_
  refine wx_lmul dX1_depthAt_54 ?_
  refine wx_aload_n (i := 0) dX1_depthAt_55 rfl rfl ?_
  refine wx_getIG (k := 1) dX1_depthAt_56 zF_X1_9 zKo_1 rfl (Nat.le_of_ble_eq_true rfl) ?_
  refine wx_i2l dX1_depthAt_59 ?_
  refine wx_lmul dX1_depthAt_60 ?_
  refine wx_aload_n (i := 0) dX1_depthAt_61 rfl rfl ?_
  refine wx_getIG (k := 1) dX1_depthAt_62 zF_X1_9 zKo_1 rfl (Nat.le_of_ble_eq_true rfl) ?_
  refine wx_i2l dX1_depthAt_65 ?_
  refine wx_lmul dX1_depthAt_66 ?_
  refine wx_aload_n (i := 0) dX1_depthAt_67 rfl rfl ?_
  refine wx_getIG (k := 1) dX1_depthAt_68 zF_X1_9 zKo_1 rfl (Nat.le_of_ble_eq_true rfl) ?_
  refine wx_i2l dX1_depthAt_71 ?_
  refine wx_lmul dX1_depthAt_72 ?_
  refine wx_lstore dX1_depthAt_73 (Nat.le_of_ble_eq_true rfl) rfl ?_
  refine wx_lload dX1_depthAt_75 rfl ?_
  refine wx_S1 dX1_depthAt_77 zPS_J9_abs_067f4 zLk_X1_25 (Nat.le_of_ble_eq_true rfl) (Or.inr rfl) ?_
  refine s_J9_abs_067f4 _ ?_
  refine wx_r1 ?_
  refine wx_lload dX1_depthAt_80 rfl ?_
  refine wx_S2 dX1_depthAt_82 zPS_X1_sharedDivisor zLk_X1_31 (Nat.le_of_ble_eq_true rfl) (Or.inr rfl) ?_
  refine s_X1_sharedDivisor (zq_abs (zTopC rfl m0 m1 m2 hr hR hA hB) (by omega)) (b := (zBot R B).toNat) (by rw [Int.toNat_of_nonneg (by omega)]; exact zBotC m0 m2 hR hB) (by omega) (by omega) ?_
  refine wx_r1 ?_
  refine wx_lstore dX1_depthAt_85 (Nat.le_of_ble_eq_true rfl) rfl ?_
  refine wx_lload dX1_depthAt_87 rfl ?_
  refine wx_lconst (v := 1) dX1_depthAt_89 (by decide) ?_
  refine wx_lcmp dX1_depthAt_90 ?_
  refine wx_if_ge (tgt := 98) dX1_depthAt_91 (by decide) (fun h91 => ?_) (fun h91 => ?_)
  · skip
    refine wx_iload_n (i := 2) dX1_depthAt_98 rfl rfl ?_
    refine wx_if_eq (tgt := 107) dX1_depthAt_99 (by decide) (fun h99 => ?_) (fun h99 => ?_)
    · skip
      refine wx_lload dX1_depthAt_107 rfl ?_
      refine wx_lload dX1_depthAt_109 rfl ?_
      refine wx_ldiv dX1_depthAt_111 ?_ ?_
      · exact hgz
      refine wx_lret dX1_depthAt_112 rfl (Or.inl rfl) ?_
      first | exact zkl hK (by unfold zDp; rw [if_pos (by assumption)]; exact congrArg (· / _) (zTopC rfl m0 m1 m2 hr hR hA hB).symm) | exact zkl hK (by unfold zDp; rw [if_neg (fun w => w (by assumption))]; exact congrArg (· / _) (zBotC m0 m2 hR hB).symm)
    · skip
      refine wx_lload dX1_depthAt_102 rfl ?_
      refine wx_goto (tgt := 109) dX1_depthAt_104 (by decide) ?_
      refine wx_lload dX1_depthAt_109 rfl ?_
      refine wx_ldiv dX1_depthAt_111 ?_ ?_
      · exact hgz
      refine wx_lret dX1_depthAt_112 rfl (Or.inl rfl) ?_
      first | exact zkl hK (by unfold zDp; rw [if_pos (by assumption)]; exact congrArg (· / _) (zTopC rfl m0 m1 m2 hr hR hA hB).symm) | exact zkl hK (by unfold zDp; rw [if_neg (fun w => w (by assumption))]; exact congrArg (· / _) (zBotC m0 m2 hR hB).symm)
  · rw [show (1 : Int64) = zq 1 by decide, zq_cge (by omega) (by omega)] at h91
    exact absurd (by omega) h91 --end
theorem s_X9_depth_bad {d : Nat} {K : List Value → zS → Prop} {mm : zM} {a b : Int32} (hb : ¬ ((0 ≤ a ∧ a ≤ 200) ∧ (0 ≤ b ∧ b ≤ 1))) (hK : K [.long (-1000000000000000000)] (zG mm)) : wm (d + 2) mX9_depth [.ref 128, .int a, .int b] (zG mm) K := by
  refine wm_of2 (L0 := [some (.ref 128), some (.int a), some (.int b), none, none, none, none, none, none, none, none]) zCm_X9_depth (Or.inl rfl) (Nat.le_of_ble_eq_true rfl) rfl ?_
  refine wx_iload_n (i := 1) dX9_depth_0 rfl rfl ?_
  refine wx_iconst (v := 0) dX9_depth_1 (by decide) ?_
  refine wx_sipush (v := 200) dX9_depth_2 (by decide) ?_
  refine wx_S3 dX9_depth_5 zPS_X9_in zLk_X9_116 (Nat.le_of_ble_eq_true rfl) (Or.inr rfl) ?_
  refine s_X9_in _ _ _ ?_
  refine wx_r1 ?_
  refine wx_eqb (tgt := 20) dX9_depth_8 (by decide) (fun h8 => ?_) (fun h8 => ?_)
  · skip
    refine wx_ldc2 dX9_depth_20 zKc_X9_120 ?_
    refine wx_lret dX9_depth_23 rfl (Or.inl rfl) ?_
    exact hK
  · skip
    refine wx_iload_n (i := 2) dX9_depth_11 rfl rfl ?_
    refine wx_iconst (v := 0) dX9_depth_12 (by decide) ?_
    refine wx_iconst (v := 1) dX9_depth_13 (by decide) ?_
    refine wx_S3 dX9_depth_14 zPS_X9_in zLk_X9_116 (Nat.le_of_ble_eq_true rfl) (Or.inr rfl) ?_
    refine s_X9_in _ _ _ ?_
    refine wx_r1 ?_
    refine wx_neb (tgt := 24) dX9_depth_17 (by decide) (fun h17 => ?_) (fun h17 => ?_)
    · skip
      exact (hb ⟨by assumption, by assumption⟩).elim
    · skip
      refine wx_ldc2 dX9_depth_20 zKc_X9_120 ?_
      refine wx_lret dX9_depth_23 rfl (Or.inl rfl) ?_
      exact hK
theorem s_X9_depth_ok {d : Nat} {K : List Value → zS → Prop} {mm : zM} {r R A B : Int} {b : Int32} (m0 : mm 128 3 = zi R) (m1 : mm 128 4 = zi A) (m2 : mm 128 5 = zi B) (hr : 0 ≤ r ∧ r ≤ 200) (hR : 100 ≤ R ∧ R ≤ 5000) (hA : -30 ≤ A ∧ A ≤ 30) (hB : 1 ≤ B ∧ B ≤ 10) (k1 : 0 ≤ zi r ∧ zi r ≤ 200) (k2 : 0 ≤ b ∧ b ≤ 1) (hK : K [.long (zDp r R A B (b = 0))] (zG mm)) : wm (d + 2) mX9_depth [.ref 128, .int (zi r), .int b] (zG mm) K := by
  have hT := zTop_bd hr hR hA hB
  have hBo := zBot_bd hR hB
  have hg0 : 0 < Nat.gcd (zTop r R A B).natAbs (zBot R B).toNat := Nat.gcd_pos_of_pos_right _ (by omega)
  have hg1 : Nat.gcd (zTop r R A B).natAbs (zBot R B).toNat ≤ (zBot R B).toNat := Nat.le_of_dvd (by omega) (Nat.gcd_dvd_right _ _)
  have hgz : ¬ zq (Nat.gcd (zTop r R A B).natAbs (zBot R B).toNat : Int) = 0 := fun w => by
    rw [show (0 : Int64) = zq 0 by decide, zq_eq (by omega) (by omega)] at w
    omega
  refine wm_of2 (L0 := [some (.ref 128), some (.int (zi r)), some (.int b), none, none, none, none, none, none, none, none]) zCm_X9_depth (Or.inl rfl) (Nat.le_of_ble_eq_true rfl) rfl ?_
  refine wx_iload_n (i := 1) dX9_depth_0 rfl rfl ?_
  refine wx_iconst (v := 0) dX9_depth_1 (by decide) ?_
  refine wx_sipush (v := 200) dX9_depth_2 (by decide) ?_
  refine wx_S3 dX9_depth_5 zPS_X9_in zLk_X9_116 (Nat.le_of_ble_eq_true rfl) (Or.inr rfl) ?_
  refine s_X9_in _ _ _ ?_
  refine wx_r1 ?_
  refine wx_eqb (tgt := 20) dX9_depth_8 (by decide) (fun h8 => ?_) (fun h8 => ?_)
  · contradiction --end
  · skip
    refine wx_iload_n (i := 2) dX9_depth_11 rfl rfl ?_
    refine wx_iconst (v := 0) dX9_depth_12 (by decide) ?_
    refine wx_iconst (v := 1) dX9_depth_13 (by decide) ?_
    refine wx_S3 dX9_depth_14 zPS_X9_in zLk_X9_116 (Nat.le_of_ble_eq_true rfl) (Or.inr rfl) ?_
    refine s_X9_in _ _ _ ?_
    refine wx_r1 ?_
    refine wx_neb (tgt := 24) dX9_depth_17 (by decide) (fun h17 => ?_) (fun h17 => ?_)
    · skip
      refine wx_iload_n (i := 1) dX9_depth_24 rfl rfl ?_
      refine wx_i2l dX9_depth_25 ?_
      refine wx_iload_n (i := 1) dX9_depth_26 rfl rfl ?_
      refine wx_i2l dX9_depth_27 ?_
      refine wx_lmul dX9_depth_28 ?_
      refine wx_lstore_n (i := 3) dX9_depth_29 rfl (Nat.le_of_ble_eq_true rfl) rfl ?_
      refine wx_aload_n (i := 0) dX9_depth_30 rfl rfl ?_
      refine wx_getIG (k := 128) dX9_depth_31 zF_X9_20 zKo_128 rfl (Nat.le_of_ble_eq_true rfl) ?_
      refine wx_i2l dX9_depth_34 ?_
      refine wx_aload_n (i := 0) dX9_depth_35 rfl rfl ?_
      refine wx_getIG (k := 128) dX9_depth_36 zF_X9_20 zKo_128 rfl (Nat.le_of_ble_eq_true rfl) ?_
      refine wx_i2l dX9_depth_39 ?_
      refine wx_lmul dX9_depth_40 ?_
      refine wx_lstore dX9_depth_41 (Nat.le_of_ble_eq_true rfl) rfl ?_
      refine wx_ldc2 dX9_depth_43 zKc_X9_122 ?_
      refine wx_aload_n (i := 0) dX9_depth_46 rfl rfl ?_
      refine wx_getIG (k := 128) dX9_depth_47 zF_X9_26 zKo_128 rfl (Nat.le_of_ble_eq_true rfl) ?_
      refine wx_i2l dX9_depth_50 ?_
      refine wx_lmul dX9_depth_51 ?_
      refine wx_lload dX9_depth_52 rfl ?_
      refine wx_lmul dX9_depth_54 ?_
      refine wx_lload_n (i := 3) dX9_depth_55 rfl rfl ?_
      refine wx_lmul dX9_depth_56 ?_
      refine wx_aload_n (i := 0) dX9_depth_57 rfl rfl ?_
      refine wx_getIG (k := 128) dX9_depth_58 zF_X9_23 zKo_128 rfl (Nat.le_of_ble_eq_true rfl) ?_
      refine wx_aload_n (i := 0) dX9_depth_61 rfl rfl ?_
      refine wx_getIG (k := 128) dX9_depth_62 zF_X9_26 zKo_128 rfl (Nat.le_of_ble_eq_true rfl) ?_
      refine wx_iadd dX9_depth_65 ?_
      refine wx_i2l dX9_depth_66 ?_
      refine wx_lload_n (i := 3) dX9_depth_67 rfl rfl ?_
      refine wx_lmul dX9_depth_68 ?_
      refine wx_lload_n (i := 3) dX9_depth_69 rfl rfl ?_
      refine wx_lmul dX9_depth_70 ?_
      refine wx_ladd dX9_depth_71 ?_
      refine wx_lstore dX9_depth_72 (Nat.le_of_ble_eq_true rfl) rfl ?_
      refine wx_ldc2 dX9_depth_74 zKc_X9_124 ?_
      refine wx_aload_n (i := 0) dX9_depth_77 rfl rfl ?_
      refine wx_getIG (k := 128) dX9_depth_78 zF_X9_26 zKo_128 rfl (Nat.le_of_ble_eq_true rfl) ?_
      refine wx_i2l dX9_depth_81 ?_
      refine wx_lmul dX9_depth_82 ?_
      refine wx_lload dX9_depth_83 rfl ?_
      refine wx_lmul dX9_depth_85 ?_
      refine wx_aload_n (i := 0) dX9_depth_86 rfl rfl ?_
      refine wx_getIG (k := 128) dX9_depth_87 zF_X9_20 zKo_128 rfl (Nat.le_of_ble_eq_true rfl) ?_
      refine wx_i2l dX9_depth_90 ?_
      refine wx_lmul dX9_depth_91 ?_
      refine wx_lstore dX9_depth_92 (Nat.le_of_ble_eq_true rfl) rfl ?_
      refine wx_iload_n (i := 2) dX9_depth_94 rfl rfl ?_
      refine wx_if_ne (tgt := 103) dX9_depth_95 (by decide) (fun h95 => ?_) (fun h95 => ?_)
      · skip
        refine wx_lload dX9_depth_103 rfl ?_
        refine wx_lload dX9_depth_105 rfl ?_
        refine wx_lload dX9_depth_107 rfl ?_
        refine wx_S2 dX9_depth_109 zPS_X9_common zLk_X9_126 (Nat.le_of_ble_eq_true rfl) (Or.inr rfl) ?_
        refine s_X9_common (zTopM rfl m0 m1 m2 hr hR hA hB) (b := (zBot R B).toNat) (by rw [Int.toNat_of_nonneg (by omega)]; exact zBotM m0 m2 hR hB) (by omega) (by omega) ?_
        refine wx_r1 ?_
        refine wx_ldiv dX9_depth_112 ?_ ?_
        · exact hgz
        refine wx_lret dX9_depth_113 rfl (Or.inl rfl) ?_
        first | exact zkl hK (by unfold zDp; rw [if_pos (by assumption)]; exact congrArg (· / _) (zTopM rfl m0 m1 m2 hr hR hA hB).symm) | exact zkl hK (by unfold zDp; rw [if_neg (by assumption)]; exact congrArg (· / _) (zBotM m0 m2 hR hB).symm)
      · skip
        refine wx_lload dX9_depth_98 rfl ?_
        refine wx_goto (tgt := 105) dX9_depth_100 (by decide) ?_
        refine wx_lload dX9_depth_105 rfl ?_
        refine wx_lload dX9_depth_107 rfl ?_
        refine wx_S2 dX9_depth_109 zPS_X9_common zLk_X9_126 (Nat.le_of_ble_eq_true rfl) (Or.inr rfl) ?_
        refine s_X9_common (zTopM rfl m0 m1 m2 hr hR hA hB) (b := (zBot R B).toNat) (by rw [Int.toNat_of_nonneg (by omega)]; exact zBotM m0 m2 hR hB) (by omega) (by omega) ?_
        refine wx_r1 ?_
        refine wx_ldiv dX9_depth_112 ?_ ?_
        · exact hgz
        refine wx_lret dX9_depth_113 rfl (Or.inl rfl) ?_
        first | exact zkl hK (by unfold zDp; rw [if_pos (by assumption)]; exact congrArg (· / _) (zTopM rfl m0 m1 m2 hr hR hA hB).symm) | exact zkl hK (by unfold zDp; rw [if_neg (by assumption)]; exact congrArg (· / _) (zBotM m0 m2 hR hB).symm)
    · contradiction --end
