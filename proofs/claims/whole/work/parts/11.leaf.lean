/-! methods without cells, and of the JDK -/
theorem wm_of2 {d : Nat} {M : zMt} {av : List Value} {σ : zS} {K : List Value → zS → Prop} {L0 : List (Option Value)} (hm : zCm M) (hz : M.2.2.2.2.2 = 0 ∨ σ.1 = M.2.2.2.2.1) (hlen : (zArgs av).length ≤ M.2.2.1) (hL : zArgs av ++ List.replicate (M.2.2.1 - (zArgs av).length) none = L0) (h : wx d M 0 L0 [] σ K) : wm d M av σ K := wm_of (nL := 0) hm hz hlen hL h
/-- the numbers once all is made -/
abbrev zG (mm : zM) : zS := (154, zRF, mm)
theorem wx_eqb {P : Prop} [Decidable P] {d : Nat} {M : zMt} {pc : Nat} {L : List (Option Value)} {st : List Value} {σ : zS} {K : List Value → zS → Prop} {off : Int} {tgt : Nat} (hd : decode M.2.1 pc = .ok (.ifCond .eq off, 3)) (ht : (pc : Int) + off = (tgt : Int)) (kt : ¬ P → wx d M tgt L st σ K) (kf : P → wx d M (pc + 3) L st σ K) : wx d M pc L (.int (if P then 1 else 0) :: st) σ K :=
  wx_if_eq hd ht (fun h => kt (fun q => by rw [if_pos q] at h; exact absurd h (by decide))) (fun h => kf (Decidable.byContradiction fun q => h (if_neg q)))
theorem wx_neb {P : Prop} [Decidable P] {d : Nat} {M : zMt} {pc : Nat} {L : List (Option Value)} {st : List Value} {σ : zS} {K : List Value → zS → Prop} {off : Int} {tgt : Nat} (hd : decode M.2.1 pc = .ok (.ifCond .ne off, 3)) (ht : (pc : Int) + off = (tgt : Int)) (kt : P → wx d M tgt L st σ K) (kf : ¬ P → wx d M (pc + 3) L st σ K) : wx d M pc L (.int (if P then 1 else 0) :: st) σ K :=
  wx_if_ne hd ht (fun h => kt (Decidable.byContradiction fun q => h (if_neg q))) (fun h => kf (fun q => by rw [if_pos q] at h; exact absurd h (by decide)))
theorem zk {α : Type} {P : α → Prop} {a b : α} (h : P a) (e : a = b) : P b := e ▸ h
theorem zki {K : List Value → zS → Prop} {σ : zS} {a b : Int32} (h : K [.int a] σ) (e : a = b) : K [.int b] σ := e ▸ h
theorem znb {P : Prop} [Decidable P] : narrow .boolean (.int (if P then 1 else 0)) = .int (if P then 1 else 0) := by
  by_cases h : P
  · rw [if_pos h]; rfl
  · rw [if_neg h]; rfl
/-- a number of either sign -/
def zi (z : Int) : Int32 := Int32.ofInt z
theorem zi_add (a b : Int) : zi a + zi b = zi (a + b) := (Int32.ofInt_add a b).symm
theorem zi_sub (a b : Int) : zi a - zi b = zi (a - b) := (Int32.ofInt_sub a b).symm
theorem zi_mul (a b : Int) : zi a * zi b = zi (a * b) := (Int32.ofInt_mul a b).symm
theorem zi_neg (a : Int) : -zi a = zi (-a) := (Int32.ofInt_neg a).symm
theorem zi_of (x : Int32) : zi x.toInt = x := Int32.ofInt_toInt x
theorem zi_toInt {z : Int} (h1 : -2147483648 ≤ z) (h2 : z < 2147483648) : (zi z).toInt = z := Int32.toInt_ofInt_of_le (by simpa using h1) (by simpa using h2)
theorem zi_nI (n : Nat) : nI n = zi (n : Int) := by
  unfold nI zi
  first | rfl | exact (Int32.ofInt_eq_ofNat).symm
theorem zi_le {a b : Int} (h1 : -2147483648 ≤ a ∧ a < 2147483648) (h2 : -2147483648 ≤ b ∧ b < 2147483648) : zi a ≤ zi b ↔ a ≤ b := by
  rw [Int32.le_iff_toInt_le, zi_toInt h1.1 h1.2, zi_toInt h2.1 h2.2]
theorem zi_lt {a b : Int} (h1 : -2147483648 ≤ a ∧ a < 2147483648) (h2 : -2147483648 ≤ b ∧ b < 2147483648) : zi a < zi b ↔ a < b := by
  rw [Int32.lt_iff_toInt_lt, zi_toInt h1.1 h1.2, zi_toInt h2.1 h2.2]
theorem zi_eq {a b : Int} (h1 : -2147483648 ≤ a ∧ a < 2147483648) (h2 : -2147483648 ≤ b ∧ b < 2147483648) : zi a = zi b ↔ a = b := by
  rw [← Int32.toInt_inj, zi_toInt h1.1 h1.2, zi_toInt h2.1 h2.2]
theorem zrng (x : Int32) : -2147483648 ≤ x.toInt ∧ x.toInt < 2147483648 := ⟨by simpa using Int32.le_toInt x, by simpa using Int32.toInt_lt x⟩
/-- v is from a to c -/
def zW (v a c : Int32) : Prop := a ≤ v ∧ v ≤ c
theorem zW_def (v a c : Int32) : zW v a c ↔ a.toInt ≤ v.toInt ∧ v.toInt ≤ c.toInt := by
  unfold zW
  rw [Int32.le_iff_toInt_le, Int32.le_iff_toInt_le]
theorem zW_dec (v a c : Int32) : (if a ≤ v ∧ v ≤ c then (1 : Int32) else 0) = if a ≤ v ∧ v ≤ c then 1 else 0 := rfl
theorem z_nle {a b : Int32} (h : ¬ a ≤ b) : b < a := Int32.not_le.mp h
theorem z_nlt {a b : Int32} (h : ¬ a < b) : b ≤ a := Int32.not_lt.mp h
theorem z_ltn {a b : Int32} (h : a < b) : ¬ b ≤ a := Int32.not_le.mpr h
theorem z_ngt {a b : Int32} (h : ¬ b < a) : a ≤ b := Int32.not_lt.mp h
theorem z_ltn2 {a : Int32} (h : 0 ≤ a) : ¬ a < 0 := fun q => z_ltn q h
theorem zkl {K : List Value → zS → Prop} {σ : zS} {a b : Int64} (h : K [.long a] σ) (e : a = b) : K [.long b] σ := e ▸ h
section ZGG
variable {d : Nat} {M M' : zMt} {pc idx : Nat} {L : List (Option Value)} {rest st av : List Value} {K : List Value → zS → Prop} {mm : zM}
theorem wx_getIG {idx ci j k : Nat} {fin : Bool} {ty0 : FieldType} (hd : decode M.2.1 pc = .ok (.getfield idx, 3)) (hf : zF M.1.cls idx ci j fin ty0) (hk : (zK k).1 = ci) (hj : zIR ci j = false) (hkn : k < 154) (kk : wx d M (pc + 3) L (.int (mm k j) :: st) (zG mm) K) : wx d M pc L (.ref k :: st) (zG mm) K := wx_getI hd hf hk hj hkn kk
theorem wx_getRG {idx ci j k t : Nat} {fin : Bool} {ty0 : FieldType} (hd : decode M.2.1 pc = .ok (.getfield idx, 3)) (hf : zF M.1.cls idx ci j fin ty0) (hk : (zK k).1 = ci) (hj : zIR ci j = true) (hkn : k < 154) (ht : zRF k j = some t) (kk : wx d M (pc + 3) L (.ref t :: st) (zG mm) K) : wx d M pc L (.ref k :: st) (zG mm) K := wx_getR hd hf hk hj hkn ht kk
theorem wx_putIG {idx ci j k : Nat} {ty0 : FieldType} {v : Int32} (hd : decode M.2.1 pc = .ok (.putfield idx, 3)) (hf : zF M.1.cls idx ci j false ty0) (hk : (zK k).1 = ci) (hj : zIR ci j = false) (hkn : k < 154) (hnar : narrow ty0 (.int v) = .int v) (hfit : fits ty0 (.int v) = true) (kk : wx d M (pc + 3) L st (zG (zU mm k j v)) K) : wx d M pc L (.int v :: .ref k :: st) (zG mm) K := wx_putI hd hf hk hj hkn hnar hfit kk
theorem wx_ialdG {k n j : Nat} {i : Int32} (hd : decode M.2.1 pc = .ok (.iaload, 1)) (hk : zK k = (10, n)) (hkn : k < 154) (hi : i = nI j) (hj : j < n ∧ n < 2 ^ 31) (kk : wx d M (pc + 1) L (.int (mm k j) :: st) (zG mm) K) : wx d M pc L (.int i :: .ref k :: st) (zG mm) K := wx_ialdN hd hk hkn hi hj kk
theorem wx_zaldG {k n j : Nat} {i : Int32} (hd : decode M.2.1 pc = .ok (.baload, 1)) (hk : zK k = (11, n)) (hkn : k < 154) (hi : i = nI j) (hj : j < n ∧ n < 2 ^ 31) (kk : wx d M (pc + 1) L (.int (mm k j) :: st) (zG mm) K) : wx d M pc L (.int i :: .ref k :: st) (zG mm) K := wx_zaldN hd hk hkn hi hj kk
theorem wx_iastG {k n j : Nat} {i v : Int32} (hd : decode M.2.1 pc = .ok (.iastore, 1)) (hk : zK k = (10, n)) (hkn : k < 154) (hi : i = nI j) (hj : j < n ∧ n < 2 ^ 31) (kk : wx d M (pc + 1) L st (zG (zU mm k j v)) K) : wx d M pc L (.int v :: .int i :: .ref k :: st) (zG mm) K := wx_iastN hd hk hkn hi hj kk
theorem wx_zastG {k n j : Nat} {i v : Int32} (hd : decode M.2.1 pc = .ok (.bastore, 1)) (hk : zK k = (11, n)) (hkn : k < 154) (hi : i = nI j) (hj : j < n ∧ n < 2 ^ 31) (hv : vp_nar .boolean v = v) (kk : wx d M (pc + 1) L st (zG (zU mm k j v)) K) : wx d M pc L (.int v :: .int i :: .ref k :: st) (zG mm) K := wx_zastN hd hk hkn hi hj hv kk
theorem wx_aaldG {k n j : Nat} {i : Int32} (hd : decode M.2.1 pc = .ok (.aaload, 1)) (hk : zK k = (12, n)) (hkn : k < 154) (hi : i = nI j) (hj : j < n ∧ n < 2 ^ 31) (kk : wx d M (pc + 1) L (.ref (k + 1 + j) :: st) (zG mm) K) : wx d M pc L (.int i :: .ref k :: st) (zG mm) K := wx_aaldN hd hk hkn hi hj (zRF_out hk hkn hj.1) kk
theorem wx_acopyG {ka kb na nb : Nat} {sp dp n : Int32} {x y z : Nat} (hd : decode M.2.1 pc = .ok (.invokestatic idx, 3)) (w1 : Cond.methodLink M.1.cls idx arraycopyName ∈ zT) (w2 : Cond.native arraycopyName ∈ zT) (w3 : Cond.static arraycopyName ∈ zT) (w4 : Cond.initialized "java/lang/System" ∈ zT) (hka : zK ka = (10, na)) (hkb : zK kb = (10, nb)) (ha : ka < 154) (hkn : kb < 154)
    (h1 : ¬ sp < 0) (h2 : ¬ dp < 0) (h3 : ¬ n < 0) (h4 : sp.toNatClampNeg + n.toNatClampNeg ≤ na) (h5 : dp.toNatClampNeg + n.toNatClampNeg ≤ nb) (e1 : sp.toNatClampNeg = x) (e2 : dp.toNatClampNeg = y) (e3 : n.toNatClampNeg = z) (hrest : (rest.map fun v => v.category).sum ≤ 8)
    (kk : wx (d + 1) M (pc + 3) L rest (zG (va_up mm kb (va_cpy (mm ka) (mm kb) x y z))) K) : wx (d + 1) M pc L (.int n :: .int dp :: .ref kb :: .int sp :: .ref ka :: rest) (zG mm) K := by
  subst e1; subst e2; subst e3
  exact wx_acopy hd w1 w2 w3 w4 hka hkb ha hkn h1 h2 h3 h4 h5 hrest kk
end ZGG
theorem s_X8_within {d : Nat} {K : List Value → zS → Prop} {σ : zS} (a b c : Int32) (hK : K [.int (if b ≤ a ∧ a ≤ c then 1 else 0)] σ) : wm (d) mX8_within [.int a, .int b, .int c] σ K := by
  refine wm_of2 (L0 := [some (.int a), some (.int b), some (.int c)]) zCm_X8_within (Or.inl rfl) (Nat.le_of_ble_eq_true rfl) rfl ?_
  refine wx_iload_n (i := 0) dX8_within_0 rfl rfl ?_
  refine wx_iload_n (i := 1) dX8_within_1 rfl rfl ?_
  refine wx_icmp_lt (tgt := 14) dX8_within_2 (by decide) (fun h2 => ?_) (fun h2 => ?_)
  · skip
    refine wx_iconst (v := 0) dX8_within_14 (by decide) ?_
    refine wx_iret dX8_within_15 rfl rfl (Or.inl rfl) ?_
    first | exact zki hK (if_pos ⟨z_nlt (by assumption), z_nlt (by assumption)⟩) | exact zki hK (if_neg (fun q => z_ltn (by assumption) q.1)) | exact zki hK (if_neg (fun q => z_ltn (by assumption) q.2))
  · skip
    refine wx_iload_n (i := 0) dX8_within_5 rfl rfl ?_
    refine wx_iload_n (i := 2) dX8_within_6 rfl rfl ?_
    refine wx_icmp_gt (tgt := 14) dX8_within_7 (by decide) (fun h7 => ?_) (fun h7 => ?_)
    · skip
      refine wx_iconst (v := 0) dX8_within_14 (by decide) ?_
      refine wx_iret dX8_within_15 rfl rfl (Or.inl rfl) ?_
      first | exact zki hK (if_pos ⟨z_nlt (by assumption), z_nlt (by assumption)⟩) | exact zki hK (if_neg (fun q => z_ltn (by assumption) q.1)) | exact zki hK (if_neg (fun q => z_ltn (by assumption) q.2))
    · skip
      refine wx_iconst (v := 1) dX8_within_10 (by decide) ?_
      refine wx_goto (tgt := 15) dX8_within_11 (by decide) ?_
      refine wx_iret dX8_within_15 rfl rfl (Or.inl rfl) ?_
      first | exact zki hK (if_pos ⟨z_nlt (by assumption), z_nlt (by assumption)⟩) | exact zki hK (if_neg (fun q => z_ltn (by assumption) q.1)) | exact zki hK (if_neg (fun q => z_ltn (by assumption) q.2))
theorem s_X9_in {d : Nat} {K : List Value → zS → Prop} {σ : zS} (a b c : Int32) (hK : K [.int (if b ≤ a ∧ a ≤ c then 1 else 0)] σ) : wm (d) mX9_in [.int a, .int b, .int c] σ K := by
  refine wm_of2 (L0 := [some (.int a), some (.int b), some (.int c)]) zCm_X9_in (Or.inl rfl) (Nat.le_of_ble_eq_true rfl) rfl ?_
  refine wx_iload_n (i := 0) dX9_in_0 rfl rfl ?_
  refine wx_iload_n (i := 1) dX9_in_1 rfl rfl ?_
  refine wx_icmp_lt (tgt := 14) dX9_in_2 (by decide) (fun h2 => ?_) (fun h2 => ?_)
  · skip
    refine wx_iconst (v := 0) dX9_in_14 (by decide) ?_
    refine wx_iret dX9_in_15 rfl rfl (Or.inl rfl) ?_
    first | exact zki hK (if_pos ⟨z_nlt (by assumption), z_nlt (by assumption)⟩) | exact zki hK (if_neg (fun q => z_ltn (by assumption) q.1)) | exact zki hK (if_neg (fun q => z_ltn (by assumption) q.2))
  · skip
    refine wx_iload_n (i := 0) dX9_in_5 rfl rfl ?_
    refine wx_iload_n (i := 2) dX9_in_6 rfl rfl ?_
    refine wx_icmp_gt (tgt := 14) dX9_in_7 (by decide) (fun h7 => ?_) (fun h7 => ?_)
    · skip
      refine wx_iconst (v := 0) dX9_in_14 (by decide) ?_
      refine wx_iret dX9_in_15 rfl rfl (Or.inl rfl) ?_
      first | exact zki hK (if_pos ⟨z_nlt (by assumption), z_nlt (by assumption)⟩) | exact zki hK (if_neg (fun q => z_ltn (by assumption) q.1)) | exact zki hK (if_neg (fun q => z_ltn (by assumption) q.2))
    · skip
      refine wx_iconst (v := 1) dX9_in_10 (by decide) ?_
      refine wx_goto (tgt := 15) dX9_in_11 (by decide) ?_
      refine wx_iret dX9_in_15 rfl rfl (Or.inl rfl) ?_
      first | exact zki hK (if_pos ⟨z_nlt (by assumption), z_nlt (by assumption)⟩) | exact zki hK (if_neg (fun q => z_ltn (by assumption) q.1)) | exact zki hK (if_neg (fun q => z_ltn (by assumption) q.2))
theorem s_X8_isTool {d : Nat} {K : List Value → zS → Prop} {σ : zS} (a : Int32) (hK : K [.int (if 0 ≤ a ∧ a ≤ 2 then 1 else 0)] σ) : wm (d + 1) mX8_isTool [.int a] σ K := by
  refine wm_of2 (L0 := [some (.int a)]) zCm_X8_isTool (Or.inl rfl) (Nat.le_of_ble_eq_true rfl) rfl ?_
  refine wx_iload_n (i := 0) dX8_isTool_0 rfl rfl ?_
  refine wx_iconst (v := 0) dX8_isTool_1 (by decide) ?_
  refine wx_iconst (v := 2) dX8_isTool_2 (by decide) ?_
  refine wx_S3 dX8_isTool_3 zPS_X8_within zLk_X8_73 (Nat.le_of_ble_eq_true rfl) (Or.inr rfl) ?_
  refine s_X8_within _ _ _ ?_
  refine wx_r1 ?_
  refine wx_iret dX8_isTool_6 rfl znb (Or.inl rfl) ?_
  exact hK
theorem s_X8_isZone {d : Nat} {K : List Value → zS → Prop} {mm : zM} (a : Int32) (hK : K [.int (if 0 ≤ a ∧ a ≤ mm 0 8 - 1 then 1 else 0)] (zG mm)) : wm (d + 1) mX8_isZone [.ref 0, .int a] (zG mm) K := by
  refine wm_of2 (L0 := [some (.ref 0), some (.int a)]) zCm_X8_isZone (Or.inl rfl) (Nat.le_of_ble_eq_true rfl) rfl ?_
  refine wx_iload_n (i := 1) dX8_isZone_0 rfl rfl ?_
  refine wx_iconst (v := 0) dX8_isZone_1 (by decide) ?_
  refine wx_aload_n (i := 0) dX8_isZone_2 rfl rfl ?_
  refine wx_getIG (k := 0) dX8_isZone_3 zF_X8_69 zKo_0 rfl (Nat.le_of_ble_eq_true rfl) ?_
  refine wx_iconst (v := 1) dX8_isZone_6 (by decide) ?_
  refine wx_isub dX8_isZone_7 ?_
  refine wx_S3 dX8_isZone_8 zPS_X8_within zLk_X8_73 (Nat.le_of_ble_eq_true rfl) (Or.inr rfl) ?_
  refine s_X8_within _ _ _ ?_
  refine wx_r1 ?_
  refine wx_iret dX8_isZone_11 rfl znb (Or.inl rfl) ?_
  exact hK
theorem s_X8_isStep {d : Nat} {K : List Value → zS → Prop} {mm : zM} (a : Int32) (hK : K [.int (if 0 ≤ a ∧ a ≤ mm 0 8 - 2 then 1 else 0)] (zG mm)) : wm (d + 1) mX8_isStep [.ref 0, .int a] (zG mm) K := by
  refine wm_of2 (L0 := [some (.ref 0), some (.int a)]) zCm_X8_isStep (Or.inl rfl) (Nat.le_of_ble_eq_true rfl) rfl ?_
  refine wx_iload_n (i := 1) dX8_isStep_0 rfl rfl ?_
  refine wx_iconst (v := 0) dX8_isStep_1 (by decide) ?_
  refine wx_aload_n (i := 0) dX8_isStep_2 rfl rfl ?_
  refine wx_getIG (k := 0) dX8_isStep_3 zF_X8_69 zKo_0 rfl (Nat.le_of_ble_eq_true rfl) ?_
  refine wx_iconst (v := 2) dX8_isStep_6 (by decide) ?_
  refine wx_isub dX8_isStep_7 ?_
  refine wx_S3 dX8_isStep_8 zPS_X8_within zLk_X8_73 (Nat.le_of_ble_eq_true rfl) (Or.inr rfl) ?_
  refine s_X8_within _ _ _ ?_
  refine wx_r1 ?_
  refine wx_iret dX8_isStep_11 rfl znb (Or.inl rfl) ?_
  exact hK
theorem s_X0_isThere {d : Nat} {K : List Value → zS → Prop} {mm : zM} (a : Int32) (hK : K [.int (if 0 ≤ a ∧ a ≤ mm 17 7 - 1 then 1 else 0)] (zG mm)) : wm (d + 1) mX0_isThere [.ref 17, .int a] (zG mm) K := by
  refine wm_of2 (L0 := [some (.ref 17), some (.int a)]) zCm_X0_isThere (Or.inl rfl) (Nat.le_of_ble_eq_true rfl) rfl ?_
  refine wx_iload_n (i := 1) dX0_isThere_0 rfl rfl ?_
  refine wx_iconst (v := 0) dX0_isThere_1 (by decide) ?_
  refine wx_aload_n (i := 0) dX0_isThere_2 rfl rfl ?_
  refine wx_getIG (k := 17) dX0_isThere_3 zF_X0_35 zKo_17 rfl (Nat.le_of_ble_eq_true rfl) ?_
  refine wx_iconst (v := 1) dX0_isThere_6 (by decide) ?_
  refine wx_isub dX0_isThere_7 ?_
  refine wx_SN3 dX0_isThere_8 zPS_X8_within zLn_X0_63 (Nat.le_of_ble_eq_true rfl) (Or.inr rfl) ?_
  refine s_X8_within _ _ _ ?_
  refine wx_r1 ?_
  refine wx_iret dX0_isThere_11 rfl znb (Or.inl rfl) ?_
  exact hK
theorem s_X9_isZone {d : Nat} {K : List Value → zS → Prop} {mm : zM} (a : Int32) (hK : K [.int (if 0 ≤ a ∧ a ≤ mm 128 0 - 1 then 1 else 0)] (zG mm)) : wm (d + 1) mX9_isZone [.ref 128, .int a] (zG mm) K := by
  refine wm_of2 (L0 := [some (.ref 128), some (.int a)]) zCm_X9_isZone (Or.inl rfl) (Nat.le_of_ble_eq_true rfl) rfl ?_
  refine wx_iload_n (i := 1) dX9_isZone_0 rfl rfl ?_
  refine wx_iconst (v := 0) dX9_isZone_1 (by decide) ?_
  refine wx_aload_n (i := 0) dX9_isZone_2 rfl rfl ?_
  refine wx_getIG (k := 128) dX9_isZone_3 zF_X9_7 zKo_128 rfl (Nat.le_of_ble_eq_true rfl) ?_
  refine wx_iconst (v := 1) dX9_isZone_6 (by decide) ?_
  refine wx_isub dX9_isZone_7 ?_
  refine wx_S3 dX9_isZone_8 zPS_X9_in zLk_X9_116 (Nat.le_of_ble_eq_true rfl) (Or.inr rfl) ?_
  refine s_X9_in _ _ _ ?_
  refine wx_r1 ?_
  refine wx_iret dX9_isZone_11 rfl znb (Or.inl rfl) ?_
  exact hK
theorem s_X9_size {d : Nat} {K : List Value → zS → Prop} {σ : zS} (a : Int32) (hK : K [.int (if a < 0 then -a else a)] σ) : wm (d) mX9_size [.int a] σ K := by
  refine wm_of2 (L0 := [some (.int a)]) zCm_X9_size (Or.inl rfl) (Nat.le_of_ble_eq_true rfl) rfl ?_
  refine wx_iload_n (i := 0) dX9_size_0 rfl rfl ?_
  refine wx_if_ge (tgt := 9) dX9_size_1 (by decide) (fun h1 => ?_) (fun h1 => ?_)
  · skip
    refine wx_iload_n (i := 0) dX9_size_9 rfl rfl ?_
    refine wx_iret dX9_size_10 rfl rfl (Or.inl rfl) ?_
    first | exact zki hK (if_pos (z_nle (by assumption))) | exact zki hK (if_neg (z_ltn2 (by assumption)))
  · skip
    refine wx_iload_n (i := 0) dX9_size_4 rfl rfl ?_
    refine wx_ineg dX9_size_5 ?_
    refine wx_goto (tgt := 10) dX9_size_6 (by decide) ?_
    refine wx_iret dX9_size_10 rfl rfl (Or.inl rfl) ?_
    first | exact zki hK (if_pos (z_nle (by assumption))) | exact zki hK (if_neg (z_ltn2 (by assumption)))
theorem s_J9_max_7cf53 {d : Nat} {K : List Value → zS → Prop} {σ : zS} (a b : Int32) (hK : K [.int (if b ≤ a then a else b)] σ) : wm (d) mJ9_max_7cf53 [.int a, .int b] σ K := by
  refine wm_of2 (L0 := [some (.int a), some (.int b)]) zCm_J9_max_7cf53 (Or.inl rfl) (Nat.le_of_ble_eq_true rfl) rfl ?_
  refine wx_iload_n (i := 0) dJ9_max_7cf53_0 rfl rfl ?_
  refine wx_iload_n (i := 1) dJ9_max_7cf53_1 rfl rfl ?_
  refine wx_icmp_lt (tgt := 9) dJ9_max_7cf53_2 (by decide) (fun h2 => ?_) (fun h2 => ?_)
  · skip
    refine wx_iload_n (i := 1) dJ9_max_7cf53_9 rfl rfl ?_
    refine wx_iret dJ9_max_7cf53_10 rfl rfl (Or.inl rfl) ?_
    first | exact zki hK (if_pos (z_nlt (by assumption))) | exact zki hK (if_neg (z_ltn (by assumption)))
  · skip
    refine wx_iload_n (i := 0) dJ9_max_7cf53_5 rfl rfl ?_
    refine wx_goto (tgt := 10) dJ9_max_7cf53_6 (by decide) ?_
    refine wx_iret dJ9_max_7cf53_10 rfl rfl (Or.inl rfl) ?_
    first | exact zki hK (if_pos (z_nlt (by assumption))) | exact zki hK (if_neg (z_ltn (by assumption)))
theorem s_J9_min_7cf53 {d : Nat} {K : List Value → zS → Prop} {σ : zS} (a b : Int32) (hK : K [.int (if a ≤ b then a else b)] σ) : wm (d) mJ9_min_7cf53 [.int a, .int b] σ K := by
  refine wm_of2 (L0 := [some (.int a), some (.int b)]) zCm_J9_min_7cf53 (Or.inl rfl) (Nat.le_of_ble_eq_true rfl) rfl ?_
  refine wx_iload_n (i := 0) dJ9_min_7cf53_0 rfl rfl ?_
  refine wx_iload_n (i := 1) dJ9_min_7cf53_1 rfl rfl ?_
  refine wx_icmp_gt (tgt := 9) dJ9_min_7cf53_2 (by decide) (fun h2 => ?_) (fun h2 => ?_)
  · skip
    refine wx_iload_n (i := 1) dJ9_min_7cf53_9 rfl rfl ?_
    refine wx_iret dJ9_min_7cf53_10 rfl rfl (Or.inl rfl) ?_
    first | exact zki hK (if_pos (z_ngt (by assumption))) | exact zki hK (if_neg (z_ltn (by assumption)))
  · skip
    refine wx_iload_n (i := 0) dJ9_min_7cf53_5 rfl rfl ?_
    refine wx_goto (tgt := 10) dJ9_min_7cf53_6 (by decide) ?_
    refine wx_iret dJ9_min_7cf53_10 rfl rfl (Or.inl rfl) ?_
    first | exact zki hK (if_pos (z_ngt (by assumption))) | exact zki hK (if_neg (z_ltn (by assumption)))
theorem s_J9_abs_0f7a4 {d : Nat} {K : List Value → zS → Prop} {σ : zS} (a : Int32) (hK : K [.int (if 0 ≤ a then a else -a)] σ) : wm (d) mJ9_abs_0f7a4 [.int a] σ K := by
  refine wm_of2 (L0 := [some (.int a)]) zCm_J9_abs_0f7a4 (Or.inl rfl) (Nat.le_of_ble_eq_true rfl) rfl ?_
  refine wx_iload_n (i := 0) dJ9_abs_0f7a4_0 rfl rfl ?_
  refine wx_if_ge (tgt := 9) dJ9_abs_0f7a4_1 (by decide) (fun h1 => ?_) (fun h1 => ?_)
  · skip
    refine wx_iload_n (i := 0) dJ9_abs_0f7a4_9 rfl rfl ?_
    refine wx_iret dJ9_abs_0f7a4_10 rfl rfl (Or.inl rfl) ?_
    first | exact zki hK (if_pos (by assumption)) | exact zki hK (if_neg (by assumption))
  · skip
    refine wx_iload_n (i := 0) dJ9_abs_0f7a4_4 rfl rfl ?_
    refine wx_ineg dJ9_abs_0f7a4_5 ?_
    refine wx_goto (tgt := 10) dJ9_abs_0f7a4_6 (by decide) ?_
    refine wx_iret dJ9_abs_0f7a4_10 rfl rfl (Or.inl rfl) ?_
    first | exact zki hK (if_pos (by assumption)) | exact zki hK (if_neg (by assumption))
theorem s_J9_abs_067f4 {d : Nat} {K : List Value → zS → Prop} {σ : zS} (a : Int64) (hK : K [.long (if 0 ≤ lg_cmp a 0 then a else -a)] σ) : wm (d) mJ9_abs_067f4 [.long a] σ K := by
  refine wm_of2 (L0 := [some (.long a), none]) zCm_J9_abs_067f4 (Or.inl rfl) (Nat.le_of_ble_eq_true rfl) rfl ?_
  refine wx_lload_n (i := 0) dJ9_abs_067f4_0 rfl rfl ?_
  refine wx_lconst (v := 0) dJ9_abs_067f4_1 (by decide) ?_
  refine wx_lcmp dJ9_abs_067f4_2 ?_
  refine wx_if_ge (tgt := 11) dJ9_abs_067f4_3 (by decide) (fun h3 => ?_) (fun h3 => ?_)
  · skip
    refine wx_lload_n (i := 0) dJ9_abs_067f4_11 rfl rfl ?_
    refine wx_lret dJ9_abs_067f4_12 rfl (Or.inl rfl) ?_
    first | exact zkl hK (if_pos (by assumption)) | exact zkl hK (if_neg (by assumption))
  · skip
    refine wx_lload_n (i := 0) dJ9_abs_067f4_6 rfl rfl ?_
    refine wx_lneg dJ9_abs_067f4_7 ?_
    refine wx_goto (tgt := 12) dJ9_abs_067f4_8 (by decide) ?_
    refine wx_lret dJ9_abs_067f4_12 rfl (Or.inl rfl) ?_
    first | exact zkl hK (if_pos (by assumption)) | exact zkl hK (if_neg (by assumption))
/-- the first i places of cell k are v -/
def zFl (mm : zM) (k i : Nat) (v : Int32) : zM := va_up mm k (fun j => if j < i then v else mm k j)
theorem zFl_0 (mm : zM) (k : Nat) (v : Int32) : zFl mm k 0 v = mm := by
  funext a
  by_cases h : a = k
  · subst h; simp [zFl, va_up]
  · simp [zFl, va_up, h]
theorem zFl_succ (mm : zM) (k i : Nat) (v : Int32) : zU (zFl mm k i v) k i v = zFl mm k (i + 1) v := by
  funext a j
  by_cases h : a = k
  · subst h
    by_cases e : j = i
    · subst e; simp [zFl, zU, va_up, upd]
    · simp only [zFl, zU, va_up, upd, if_pos, e, if_false]
      by_cases g : j < i
      · rw [if_pos g, if_pos (by omega)]
      · rw [if_neg g, if_neg (by omega)]
  · simp [zFl, zU, va_up, h]
theorem lp_fill {d : Nat} {K : List Value → zS → Prop} {sn : Nat} {rf : zR} {mm : zM} {k n : Nat} {v : Int32} (hk : zK k = (10, n)) (hkn : k < sn) (hn : n < 2 ^ 31) (hK : K [] (sn, rf, zFl mm k n v)) : ∀ c i : Nat, i + c = n → wx d mJ7_fill_53178 5 [some (.ref k), some (.int v), some (.int (nI i)), some (.int (nI n))] [] (sn, rf, zFl mm k i v) K := by
  intro c
  induction c with
  | zero =>
    intro i hi
    have hi : i = n := by omega
    subst hi
    refine wx_iload_n (i := 2) dJ7_fill_53178_5 rfl rfl ?_
    refine wx_iload_n (i := 3) dJ7_fill_53178_6 rfl rfl ?_
    refine wx_icmp_ge (tgt := 20) dJ7_fill_53178_7 (by decide) (fun h7 => ?_) (fun h7 => ?_)
    · skip
      refine wx_vret dJ7_fill_53178_20 rfl (Or.inl rfl) ?_
      exact hK
    · exact absurd (nI_le (Nat.le_refl _) hn) h7 --end
  | succ c ih =>
    intro i hi
    refine wx_iload_n (i := 2) dJ7_fill_53178_5 rfl rfl ?_
    refine wx_iload_n (i := 3) dJ7_fill_53178_6 rfl rfl ?_
    refine wx_icmp_ge (tgt := 20) dJ7_fill_53178_7 (by decide) (fun h7 => ?_) (fun h7 => ?_)
    · exact absurd h7 (nI_ge (by omega) hn) --end
    · skip
      refine wx_aload_n (i := 0) dJ7_fill_53178_10 rfl rfl ?_
      refine wx_iload_n (i := 2) dJ7_fill_53178_11 rfl rfl ?_
      refine wx_iload_n (i := 1) dJ7_fill_53178_12 rfl rfl ?_
      refine wx_iastN (j := i) dJ7_fill_53178_13 hk hkn rfl ?_ ?_
      · exact ⟨by omega, hn⟩
      refine wx_inc (c := 1) dJ7_fill_53178_14 rfl (by decide) (Nat.le_of_ble_eq_true rfl) rfl ?_
      refine wx_goto (tgt := 5) dJ7_fill_53178_17 (by decide) ?_
      rw [nI_1]
      rw [zFl_succ]
      exact ih (i + 1) (by omega)
theorem s_J7_fill {d : Nat} {K : List Value → zS → Prop} {sn : Nat} {rf : zR} {mm : zM} {k n : Nat} {v : Int32} (hk : zK k = (10, n)) (hkn : k < sn) (hn : n < 2 ^ 31) (hK : K [] (sn, rf, zFl mm k n v)) : wm d mJ7_fill_53178 [.ref k, .int v] (sn, rf, mm) K := by
  refine wm_of2 (L0 := [some (.ref k), some (.int v), none, none]) zCm_J7_fill_53178 (Or.inl rfl) (Nat.le_of_ble_eq_true rfl) rfl ?_
  refine wx_iconst (v := 0) dJ7_fill_53178_0 (by decide) ?_
  refine wx_istore_n (i := 2) dJ7_fill_53178_1 rfl (Nat.le_of_ble_eq_true rfl) rfl ?_
  refine wx_aload_n (i := 0) dJ7_fill_53178_2 rfl rfl ?_
  refine wx_alen dJ7_fill_53178_3 hk hkn ?_
  refine wx_istore_n (i := 3) dJ7_fill_53178_4 rfl (Nat.le_of_ble_eq_true rfl) rfl ?_
  have h := lp_fill (d := d) (mm := mm) hk hkn hn hK n 0 (by omega)
  rw [zFl_0] at h
  exact h
section ZGF
variable {d : Nat} {K : List Value → zS → Prop} {mm : zM}
theorem s_J7_fillG {k n : Nat} {v : Int32} (hk : zK k = (10, n)) (hkn : k < 154) (hn : n < 2 ^ 31) (hK : K [] (zG (zFl mm k n v))) : wm d mJ7_fill_53178 [.ref k, .int v] (zG mm) K := s_J7_fill hk hkn hn hK
end ZGF
