/-! methods without cells -/
theorem wm_of2 {d : Nat} {M : zMt} {av : List Value} {σ : zS} {K : List Value → zS → Prop} {L0 : List (Option Value)} (hm : zCm M) (hz : M.2.2.2.2.2 = 0 ∨ σ.1 = M.2.2.2.2.1) (hlen : (zArgs av).length ≤ M.2.2.1) (hL : zArgs av ++ List.replicate (M.2.2.1 - (zArgs av).length) none = L0) (h : wx d M 0 L0 [] σ K) : wm d M av σ K := wm_of (nL := 0) hm hz hlen hL h
/-- the numbers once all is made -/
abbrev zG (mm : zM) : zS := (154, zRF, mm)
theorem wx_eqb {P : Prop} [Decidable P] {d : Nat} {M : zMt} {pc : Nat} {L : List (Option Value)} {st : List Value} {σ : zS} {K : List Value → zS → Prop} {off : Int} {tgt : Nat} (hd : decode M.2.1 pc = .ok (.ifCond .eq off, 3)) (ht : (pc : Int) + off = (tgt : Int)) (kt : ¬ P → wx d M tgt L st σ K) (kf : P → wx d M (pc + 3) L st σ K) : wx d M pc L (.int (if P then 1 else 0) :: st) σ K :=
  wx_if_eq hd ht (fun h => kt (fun q => by rw [if_pos q] at h; exact absurd h (by decide))) (fun h => kf (Decidable.byContradiction fun q => h (if_neg q)))
theorem wx_neb {P : Prop} [Decidable P] {d : Nat} {M : zMt} {pc : Nat} {L : List (Option Value)} {st : List Value} {σ : zS} {K : List Value → zS → Prop} {off : Int} {tgt : Nat} (hd : decode M.2.1 pc = .ok (.ifCond .ne off, 3)) (ht : (pc : Int) + off = (tgt : Int)) (kt : P → wx d M tgt L st σ K) (kf : ¬ P → wx d M (pc + 3) L st σ K) : wx d M pc L (.int (if P then 1 else 0) :: st) σ K :=
  wx_if_ne hd ht (fun h => kt (Decidable.byContradiction fun q => h (if_neg q))) (fun h => kf (fun q => by rw [if_pos q] at h; exact absurd h (by decide)))
theorem zk {α : Type} {P : α → Prop} {a b : α} (h : P a) (e : a = b) : P b := e ▸ h
theorem zki {K : List Value → zS → Prop} {σ : zS} {a b : Int32} (h : K [.int a] σ) (e : a = b) : K [.int b] σ := e ▸ h
theorem znb {P : Prop} [Decidable P] : narrow .boolean (.int (if P then 1 else 0)) = .int (if P then 1 else 0) := by
  by_cases h : P
  · rw [if_pos h]; rfl
  · rw [if_neg h]; rfl
/-- a number of either sign -/
def zi (z : Int) : Int32 := Int32.ofInt z
theorem zi_add (a b : Int) : zi a + zi b = zi (a + b) := (Int32.ofInt_add a b).symm
theorem zi_sub (a b : Int) : zi a - zi b = zi (a - b) := (Int32.ofInt_sub a b).symm
theorem zi_mul (a b : Int) : zi a * zi b = zi (a * b) := (Int32.ofInt_mul a b).symm
theorem zi_neg (a : Int) : -zi a = zi (-a) := (Int32.ofInt_neg a).symm
theorem zi_of (x : Int32) : zi x.toInt = x := Int32.ofInt_toInt x
theorem zi_toInt {z : Int} (h1 : -2147483648 ≤ z) (h2 : z < 2147483648) : (zi z).toInt = z := Int32.toInt_ofInt_of_le (by simpa using h1) (by simpa using h2)
theorem zi_nI (n : Nat) : nI n = zi (n : Int) := by
  unfold nI zi
  first | rfl | exact (Int32.ofInt_eq_ofNat).symm
theorem zi_le {a b : Int} (h1 : -2147483648 ≤ a ∧ a < 2147483648) (h2 : -2147483648 ≤ b ∧ b < 2147483648) : zi a ≤ zi b ↔ a ≤ b := by
  rw [Int32.le_iff_toInt_le, zi_toInt h1.1 h1.2, zi_toInt h2.1 h2.2]
theorem zi_lt {a b : Int} (h1 : -2147483648 ≤ a ∧ a < 2147483648) (h2 : -2147483648 ≤ b ∧ b < 2147483648) : zi a < zi b ↔ a < b := by
  rw [Int32.lt_iff_toInt_lt, zi_toInt h1.1 h1.2, zi_toInt h2.1 h2.2]
theorem zi_eq {a b : Int} (h1 : -2147483648 ≤ a ∧ a < 2147483648) (h2 : -2147483648 ≤ b ∧ b < 2147483648) : zi a = zi b ↔ a = b := by
  rw [← Int32.toInt_inj, zi_toInt h1.1 h1.2, zi_toInt h2.1 h2.2]
theorem zrng (x : Int32) : -2147483648 ≤ x.toInt ∧ x.toInt < 2147483648 := ⟨by simpa using Int32.le_toInt x, by simpa using Int32.toInt_lt x⟩
/-- v is from a to c -/
def zW (v a c : Int32) : Prop := a ≤ v ∧ v ≤ c
theorem zW_def (v a c : Int32) : zW v a c ↔ a.toInt ≤ v.toInt ∧ v.toInt ≤ c.toInt := by
  unfold zW
  rw [Int32.le_iff_toInt_le, Int32.le_iff_toInt_le]
theorem zW_dec (v a c : Int32) : (if a ≤ v ∧ v ≤ c then (1 : Int32) else 0) = if a ≤ v ∧ v ≤ c then 1 else 0 := rfl
theorem z_nle {a b : Int32} (h : ¬ a ≤ b) : b < a := Int32.not_le.mp h
theorem z_nlt {a b : Int32} (h : ¬ a < b) : b ≤ a := Int32.not_lt.mp h
theorem z_ltn {a b : Int32} (h : a < b) : ¬ b ≤ a := Int32.not_le.mpr h
theorem s_X8_within {d : Nat} {K : List Value → zS → Prop} {σ : zS} (a b c : Int32) (hK : K [.int (if b ≤ a ∧ a ≤ c then 1 else 0)] σ) : wm (d) mX8_within [.int a, .int b, .int c] σ K := by
  refine wm_of2 (L0 := [some (.int a), some (.int b), some (.int c)]) zCm_X8_within (Or.inl rfl) (Nat.le_of_ble_eq_true rfl) rfl ?_
  refine wx_iload_n (i := 0) dX8_within_0 rfl rfl ?_
  refine wx_iload_n (i := 1) dX8_within_1 rfl rfl ?_
  refine wx_icmp_lt (tgt := 14) dX8_within_2 (by decide) (fun h2 => ?_) (fun h2 => ?_)
  · skip
    refine wx_iconst (v := 0) dX8_within_14 (by decide) ?_
    refine wx_iret dX8_within_15 rfl rfl (Or.inl rfl) ?_
    first | exact zki hK (if_pos ⟨z_nlt (by assumption), z_nlt (by assumption)⟩) | exact zki hK (if_neg (fun q => z_ltn (by assumption) q.1)) | exact zki hK (if_neg (fun q => z_ltn (by assumption) q.2))
  · skip
    refine wx_iload_n (i := 0) dX8_within_5 rfl rfl ?_
    refine wx_iload_n (i := 2) dX8_within_6 rfl rfl ?_
    refine wx_icmp_gt (tgt := 14) dX8_within_7 (by decide) (fun h7 => ?_) (fun h7 => ?_)
    · skip
      refine wx_iconst (v := 0) dX8_within_14 (by decide) ?_
      refine wx_iret dX8_within_15 rfl rfl (Or.inl rfl) ?_
      first | exact zki hK (if_pos ⟨z_nlt (by assumption), z_nlt (by assumption)⟩) | exact zki hK (if_neg (fun q => z_ltn (by assumption) q.1)) | exact zki hK (if_neg (fun q => z_ltn (by assumption) q.2))
    · skip
      refine wx_iconst (v := 1) dX8_within_10 (by decide) ?_
      refine wx_goto (tgt := 15) dX8_within_11 (by decide) ?_
      refine wx_iret dX8_within_15 rfl rfl (Or.inl rfl) ?_
      first | exact zki hK (if_pos ⟨z_nlt (by assumption), z_nlt (by assumption)⟩) | exact zki hK (if_neg (fun q => z_ltn (by assumption) q.1)) | exact zki hK (if_neg (fun q => z_ltn (by assumption) q.2))

theorem s_X9_in {d : Nat} {K : List Value → zS → Prop} {σ : zS} (a b c : Int32) (hK : K [.int (if b ≤ a ∧ a ≤ c then 1 else 0)] σ) : wm (d) mX9_in [.int a, .int b, .int c] σ K := by
  refine wm_of2 (L0 := [some (.int a), some (.int b), some (.int c)]) zCm_X9_in (Or.inl rfl) (Nat.le_of_ble_eq_true rfl) rfl ?_
  refine wx_iload_n (i := 0) dX9_in_0 rfl rfl ?_
  refine wx_iload_n (i := 1) dX9_in_1 rfl rfl ?_
  refine wx_icmp_lt (tgt := 14) dX9_in_2 (by decide) (fun h2 => ?_) (fun h2 => ?_)
  · skip
    refine wx_iconst (v := 0) dX9_in_14 (by decide) ?_
    refine wx_iret dX9_in_15 rfl rfl (Or.inl rfl) ?_
    first | exact zki hK (if_pos ⟨z_nlt (by assumption), z_nlt (by assumption)⟩) | exact zki hK (if_neg (fun q => z_ltn (by assumption) q.1)) | exact zki hK (if_neg (fun q => z_ltn (by assumption) q.2))
  · skip
    refine wx_iload_n (i := 0) dX9_in_5 rfl rfl ?_
    refine wx_iload_n (i := 2) dX9_in_6 rfl rfl ?_
    refine wx_icmp_gt (tgt := 14) dX9_in_7 (by decide) (fun h7 => ?_) (fun h7 => ?_)
    · skip
      refine wx_iconst (v := 0) dX9_in_14 (by decide) ?_
      refine wx_iret dX9_in_15 rfl rfl (Or.inl rfl) ?_
      first | exact zki hK (if_pos ⟨z_nlt (by assumption), z_nlt (by assumption)⟩) | exact zki hK (if_neg (fun q => z_ltn (by assumption) q.1)) | exact zki hK (if_neg (fun q => z_ltn (by assumption) q.2))
    · skip
      refine wx_iconst (v := 1) dX9_in_10 (by decide) ?_
      refine wx_goto (tgt := 15) dX9_in_11 (by decide) ?_
      refine wx_iret dX9_in_15 rfl rfl (Or.inl rfl) ?_
      first | exact zki hK (if_pos ⟨z_nlt (by assumption), z_nlt (by assumption)⟩) | exact zki hK (if_neg (fun q => z_ltn (by assumption) q.1)) | exact zki hK (if_neg (fun q => z_ltn (by assumption) q.2))

theorem s_X8_isTool {d : Nat} {K : List Value → zS → Prop} {σ : zS} (a : Int32) (hK : K [.int (if 0 ≤ a ∧ a ≤ 2 then 1 else 0)] σ) : wm (d + 1) mX8_isTool [.int a] σ K := by
  refine wm_of2 (L0 := [some (.int a)]) zCm_X8_isTool (Or.inl rfl) (Nat.le_of_ble_eq_true rfl) rfl ?_
  refine wx_iload_n (i := 0) dX8_isTool_0 rfl rfl ?_
  refine wx_iconst (v := 0) dX8_isTool_1 (by decide) ?_
  refine wx_iconst (v := 2) dX8_isTool_2 (by decide) ?_
  refine wx_S3 dX8_isTool_3 zPS_X8_within zLk_X8_73 (Nat.le_of_ble_eq_true rfl) (Or.inr rfl) ?_
  refine s_X8_within _ _ _ ?_
  refine wx_r1 ?_
  refine wx_iret dX8_isTool_6 rfl rfl (Or.inl rfl) ?_
  exact hK
