/-! how many bits -/
/-- how many of the first bits are set -/
def zCb : Nat → Nat → Nat
  | 0, _ => 0
  | n + 1, k => zCb n k + (k.testBit n).toNat
def zB1 (k : Nat) : Nat := k - ((k >>> 1) &&& 1431655765)
def zB2 (k : Nat) : Nat := (k &&& 858993459) + ((k >>> 2) &&& 858993459)
def zB3 (k : Nat) : Nat := (k + (k >>> 4)) &&& 252645135
def zB4 (k : Nat) : Nat := k + (k >>> 8)
def zB5 (k : Nat) : Nat := (k + (k >>> 16)) &&& 63
theorem zb_sp (n x y m w : Nat) (hy : y < 2 ^ n) (hw : w < 2 ^ n) : (2 ^ n * x + y) &&& (2 ^ n * m + w) = 2 ^ n * (x &&& m) + (y &&& w) := by
  have h1 : ((2 ^ n * x + y) &&& (2 ^ n * m + w)) / 2 ^ n = x &&& m := by
    rw [Nat.and_div_two_pow, Nat.mul_add_div (Nat.two_pow_pos n), Nat.mul_add_div (Nat.two_pow_pos n), Nat.div_eq_of_lt hy, Nat.div_eq_of_lt hw]
    rfl
  have h2 : ((2 ^ n * x + y) &&& (2 ^ n * m + w)) % 2 ^ n = y &&& w := by
    rw [Nat.and_mod_two_pow, Nat.mul_add_mod, Nat.mul_add_mod, Nat.mod_eq_of_lt hy, Nat.mod_eq_of_lt hw]
  have h3 := Nat.div_add_mod ((2 ^ n * x + y) &&& (2 ^ n * m + w)) (2 ^ n)
  rw [h1, h2] at h3
  exact h3.symm
def zb1 (y : Nat) : Nat := y - (y / 2 &&& 85)
def zb2 (y : Nat) : Nat := (y &&& 51) + (y / 4 &&& 51)
def zb3 (y : Nat) : Nat := (y + y / 16) % 16
theorem zb_all : ∀ y, y < 256 → zb1 y < 256 ∧ zb2 (zb1 y) ≤ 68 ∧ zb2 (zb1 y) % 16 ≤ 4 ∧ zb3 (zb2 (zb1 y)) = zCb 8 y := by decide +kernel
theorem zb_c : ∀ y, y < 256 → zCb 8 y ≤ 8 := by decide +kernel
theorem zb_s1 {h l : Nat} (hh : h < 256) (hl : l < 256) : zB1 (256 * h + l) = 256 * zb1 h + zb1 l := by
  have e1 : (256 * h + l) >>> 1 = 2 ^ 8 * (h / 2) + (2 ^ 7 * (h % 2) + l / 2) := by rw [Nat.shiftRight_eq_div_pow]; omega
  have e2 := zb_sp 8 (h / 2) (2 ^ 7 * (h % 2) + l / 2) 5592405 85 (by omega) (by decide)
  have e3 := zb_sp 7 (h % 2) (l / 2) 0 85 (by omega) (by decide)
  have e4 := zb_sp 8 0 (h / 2) 21845 85 (by omega) (by decide)
  have b1 : l / 2 &&& 85 ≤ l / 2 := Nat.and_le_left
  have b2 : h / 2 &&& 85 ≤ h / 2 := Nat.and_le_left
  rw [Nat.and_zero] at e3
  rw [Nat.zero_and] at e4
  simp only [Nat.mul_zero, Nat.zero_add] at e3 e4
  unfold zB1
  rw [e1, show 1431655765 = 2 ^ 8 * 5592405 + 85 by decide, e2, e3, show 5592405 = 2 ^ 8 * 21845 + 85 by decide, e4]
  unfold zb1
  omega
theorem zb_s2 {x y : Nat} (hx : x < 256) (hy : y < 256) : zB2 (256 * x + y) = 256 * zb2 x + zb2 y := by
  have e1 : (256 * x + y) >>> 2 = 2 ^ 8 * (x / 4) + (2 ^ 6 * (x % 4) + y / 4) := by rw [Nat.shiftRight_eq_div_pow]; omega
  have e2 := zb_sp 8 (x / 4) (2 ^ 6 * (x % 4) + y / 4) 3355443 51 (by omega) (by decide)
  have e3 := zb_sp 6 (x % 4) (y / 4) 0 51 (by omega) (by decide)
  have e4 := zb_sp 8 0 (x / 4) 13107 51 (by omega) (by decide)
  have e5 := zb_sp 8 x y 3355443 51 (by omega) (by decide)
  have e6 := zb_sp 8 0 x 13107 51 (by omega) (by decide)
  rw [Nat.and_zero] at e3
  rw [Nat.zero_and] at e4 e6
  simp only [Nat.mul_zero, Nat.zero_add] at e3 e4 e6
  have e7 : 256 * x + y &&& 858993459 = 256 * (x &&& 51) + (y &&& 51) := by
    rw [show 858993459 = 2 ^ 8 * 3355443 + 51 by decide, show 256 * x = 2 ^ 8 * x from rfl, e5, show 3355443 = 2 ^ 8 * 13107 + 51 by decide, e6]
  have e8 : (256 * x + y) >>> 2 &&& 858993459 = 256 * (x / 4 &&& 51) + (y / 4 &&& 51) := by
    rw [e1, show 858993459 = 2 ^ 8 * 3355443 + 51 by decide, e2, e3, show 3355443 = 2 ^ 8 * 13107 + 51 by decide, e4]
  unfold zB2 zb2
  rw [e7, e8]
  omega
theorem zb_s3 {x y : Nat} (hx : x ≤ 68) (hx2 : x % 16 ≤ 4) (hy : y ≤ 68) : zB3 (256 * x + y) = 256 * zb3 x + zb3 y := by
  have e0 : (256 * x + y) + (256 * x + y) >>> 4 = 2 ^ 8 * (x + x / 16) + (16 * (x % 16) + y + y / 16) := by rw [Nat.shiftRight_eq_div_pow]; omega
  have e1 := zb_sp 8 (x + x / 16) (16 * (x % 16) + y + y / 16) 986895 15 (by omega) (by decide)
  have e2 := zb_sp 8 0 (x + x / 16) 3855 15 (by omega) (by decide)
  rw [Nat.zero_and] at e2
  simp only [Nat.mul_zero, Nat.zero_add] at e2
  have m : ∀ a : Nat, a &&& 15 = a % 16 := fun a => Nat.and_two_pow_sub_one_eq_mod a 4
  unfold zB3 zb3
  rw [e0, show 252645135 = 2 ^ 8 * 986895 + 15 by decide, e1, show 986895 = 2 ^ 8 * 3855 + 15 by decide, e2, m, m]
  omega
theorem zb_s4 {x y : Nat} (hx : x ≤ 8) (hy : y ≤ 8) : zB5 (zB4 (256 * x + y)) = x + y := by
  have m : ∀ a : Nat, a &&& 63 = a % 64 := fun a => Nat.and_two_pow_sub_one_eq_mod a 6
  unfold zB5 zB4
  rw [m, Nat.shiftRight_eq_div_pow, Nat.shiftRight_eq_div_pow, show (2 : Nat) ^ 8 = 256 from rfl, show (2 : Nat) ^ 16 = 65536 from rfl, show (256 * x + y) / 256 = x by omega, show (256 * x + y + x) / 65536 = 0 by omega]
  omega
theorem zCb_add {h l : Nat} (hl : l < 256) : ∀ n, zCb (8 + n) (256 * h + l) = zCb 8 l + zCb n h
  | 0 => by
    have t : ∀ j, j < 8 → (256 * h + l).testBit j = l.testBit j := fun j hj => by
      rw [show 256 * h + l = 2 ^ 8 * h + l from rfl, Nat.testBit_two_pow_mul_add _ (by omega), if_pos hj]
    have : ∀ n, n ≤ 8 → zCb n (256 * h + l) = zCb n l := by
      intro n
      induction n with
      | zero => intro _; rfl
      | succ n ih =>
        intro hn
        show zCb n _ + _ = zCb n _ + _
        rw [ih (by omega), t n (by omega)]
    exact this 8 (by omega)
  | n + 1 => by
    show zCb (8 + n) _ + ((256 * h + l).testBit (8 + n)).toNat = zCb 8 l + (zCb n h + (h.testBit n).toNat)
    rw [zCb_add hl n, show 256 * h + l = 2 ^ 8 * h + l from rfl, Nat.testBit_two_pow_mul_add _ (by omega), if_neg (by omega), show 8 + n - 8 = n by omega]
    omega
theorem zB_pc {k : Nat} (hk : k < 32768) : zB5 (zB4 (zB3 (zB2 (zB1 k)))) = zCb 15 k := by
  have hh : k / 256 < 128 := by omega
  have hl : k % 256 < 256 := by omega
  obtain ⟨a1, a2, a3, a4⟩ := zb_all (k / 256) (by omega)
  obtain ⟨b1, b2, b3, b4⟩ := zb_all (k % 256) hl
  have c1 := zb_c (k / 256) (by omega)
  have c2 := zb_c (k % 256) hl
  have e : k = 256 * (k / 256) + k % 256 := by omega
  have hc := zCb_add (h := k / 256) hl 7
  have h7 : zCb 8 (k / 256) = zCb 7 (k / 256) := by
    show zCb 7 (k / 256) + ((k / 256).testBit 7).toNat = _
    rw [Nat.testBit_lt_two_pow (show k / 256 < 2 ^ 7 from hh)]
    rfl
  rw [show 8 + 7 = 15 from rfl, ← e] at hc
  rw [hc, e, zb_s1 (by omega) hl, zb_s2 a1 b1, zb_s3 a2 a3 b2, a4, b4, zb_s4 c1 c2]
  rw [← e, h7]
  omega
theorem nI_sub {a b : Nat} (h : b ≤ a) : nI a - nI b = nI (a - b) := by
  rw [zi_nI, zi_nI, zi_nI, zi_sub]
  exact congrArg zi (by omega)
theorem nI_and (a b : Nat) : nI a &&& nI b = nI (a &&& b) := by
  apply Int32.toBitVec_inj.mp
  rw [Int32.toBitVec_and]
  exact (BitVec.ofNat_and).symm
theorem nI_or (a b : Nat) : nI a ||| nI b = nI (a ||| b) := by
  apply Int32.toBitVec_inj.mp
  rw [Int32.toBitVec_or]
  exact (BitVec.ofNat_or).symm
theorem nI_shl : ∀ i, i < 15 → (1 : Int32) <<< (nI i &&& 31) = nI (1 <<< i) := by decide +kernel
theorem nI_ush {a : Nat} (h : a < 2 ^ 31) {b : Int32} (j : Nat) (hb : (b.toUInt32 &&& Int32.toUInt32 31) = UInt32.ofNat j) (hj : j < 32) : ((nI a).toUInt32 >>> (b.toUInt32 &&& Int32.toUInt32 31)).toInt32 = nI (a >>> j) := by
  rw [hb]
  apply Int32.toBitVec_inj.mp
  show ((nI a).toUInt32 >>> UInt32.ofNat j).toBitVec = _
  rw [UInt32.toBitVec_shiftRight]
  apply BitVec.eq_of_toNat_eq
  have e1 : ((nI a).toUInt32.toBitVec).toNat = a := by
    show (BitVec.ofNat 32 a).toNat = a
    rw [BitVec.toNat_ofNat]
    exact Nat.mod_eq_of_lt (by omega)
  have e2 : ((UInt32.ofNat j).toBitVec % 32).toNat = j := by
    rw [BitVec.toNat_umod]
    show (j % 2 ^ 32) % 32 = j
    omega
  have e3 : a >>> j ≤ a := Nat.shiftRight_le a j
  rw [show ∀ (u : BitVec 32) (v : BitVec 32), u >>> v = u >>> v.toNat from fun _ _ => rfl, BitVec.toNat_ushiftRight, e1, e2]
  show _ = (a >>> j) % 2 ^ 32
  generalize a >>> j = q at e3 ⊢
  omega
theorem zB1_le (k : Nat) : zB1 k ≤ k := Nat.sub_le _ _
theorem zB2_le (k : Nat) : zB2 k ≤ k + k := Nat.add_le_add Nat.and_le_left (Nat.le_trans Nat.and_le_left (Nat.shiftRight_le _ _))
theorem zB3_le (k : Nat) : zB3 k ≤ k + k := Nat.le_trans Nat.and_le_left (Nat.add_le_add (Nat.le_refl _) (Nat.shiftRight_le _ _))
theorem zB4_le (k : Nat) : zB4 k ≤ k + k := Nat.add_le_add (Nat.le_refl _) (Nat.shiftRight_le _ _)
theorem s_J6_bitCount_0f7a4 {d : Nat} {K : List Value → zS → Prop} {σ : zS} {k : Nat} (hk : k < 32768) (hK : K [.int (nI (zCb 15 k))] σ) : wm (d) mJ6_bitCount_0f7a4 [.int (nI k)] σ K := by
  have e1 := zB1_le k
  have e2 := zB2_le (zB1 k)
  have e3 := zB3_le (zB2 (zB1 k))
  have e4 := zB4_le (zB3 (zB2 (zB1 k)))
  have s1 : (k >>> 1) &&& 1431655765 ≤ k := Nat.le_trans Nat.and_le_left (Nat.shiftRight_le _ _)
  rw [← zB_pc hk] at hK
  refine wm_of2 (L0 := [some (.int (nI k))]) zCm_J6_bitCount_0f7a4 (Or.inl rfl) (Nat.le_of_ble_eq_true rfl) rfl ?_
  refine wx_iload_n (i := 0) dJ6_bitCount_0f7a4_0 rfl rfl ?_
  refine wx_iload_n (i := 0) dJ6_bitCount_0f7a4_1 rfl rfl ?_
  refine wx_iconst (v := 1) dJ6_bitCount_0f7a4_2 (by decide) ?_
  refine wx_iushr dJ6_bitCount_0f7a4_3 ?_
  refine wx_ldcw dJ6_bitCount_0f7a4_4 zKc_J6_265 ?_
  refine wx_iand dJ6_bitCount_0f7a4_7 ?_
  refine wx_isub dJ6_bitCount_0f7a4_8 ?_
  refine wx_istore_n (i := 0) dJ6_bitCount_0f7a4_9 rfl (Nat.le_of_ble_eq_true rfl) rfl ?_
  rw [nI_ush (by omega) 1 (by decide) (by decide), show (1431655765 : Int32) = nI 1431655765 from rfl, nI_and, nI_sub s1, show k - ((k >>> 1) &&& 1431655765) = zB1 k from rfl]
  refine wx_iload_n (i := 0) dJ6_bitCount_0f7a4_10 rfl rfl ?_
  refine wx_ldcw dJ6_bitCount_0f7a4_11 zKc_J6_266 ?_
  refine wx_iand dJ6_bitCount_0f7a4_14 ?_
  refine wx_iload_n (i := 0) dJ6_bitCount_0f7a4_15 rfl rfl ?_
  refine wx_iconst (v := 2) dJ6_bitCount_0f7a4_16 (by decide) ?_
  refine wx_iushr dJ6_bitCount_0f7a4_17 ?_
  refine wx_ldcw dJ6_bitCount_0f7a4_18 zKc_J6_266 ?_
  refine wx_iand dJ6_bitCount_0f7a4_21 ?_
  refine wx_iadd dJ6_bitCount_0f7a4_22 ?_
  refine wx_istore_n (i := 0) dJ6_bitCount_0f7a4_23 rfl (Nat.le_of_ble_eq_true rfl) rfl ?_
  rw [nI_ush (by omega) 2 (by decide) (by decide), show (858993459 : Int32) = nI 858993459 from rfl, nI_and, nI_and, nI_add, show (zB1 k &&& 858993459) + ((zB1 k >>> 2) &&& 858993459) = zB2 (zB1 k) from rfl]
  generalize zB2 (zB1 k) = k2 at e2 e3 e4 hK ⊢
  refine wx_iload_n (i := 0) dJ6_bitCount_0f7a4_24 rfl rfl ?_
  refine wx_iload_n (i := 0) dJ6_bitCount_0f7a4_25 rfl rfl ?_
  refine wx_iconst (v := 4) dJ6_bitCount_0f7a4_26 (by decide) ?_
  refine wx_iushr dJ6_bitCount_0f7a4_27 ?_
  refine wx_iadd dJ6_bitCount_0f7a4_28 ?_
  refine wx_ldcw dJ6_bitCount_0f7a4_29 zKc_J6_267 ?_
  refine wx_iand dJ6_bitCount_0f7a4_32 ?_
  refine wx_istore_n (i := 0) dJ6_bitCount_0f7a4_33 rfl (Nat.le_of_ble_eq_true rfl) rfl ?_
  rw [nI_ush (by omega) 4 (by decide) (by decide), nI_add, show (252645135 : Int32) = nI 252645135 from rfl, nI_and, show (k2 + (k2 >>> 4)) &&& 252645135 = zB3 k2 from rfl]
  generalize zB3 k2 = k3 at e3 e4 hK ⊢
  refine wx_iload_n (i := 0) dJ6_bitCount_0f7a4_34 rfl rfl ?_
  refine wx_iload_n (i := 0) dJ6_bitCount_0f7a4_35 rfl rfl ?_
  refine wx_bipush (v := 8) dJ6_bitCount_0f7a4_36 (by decide) ?_
  refine wx_iushr dJ6_bitCount_0f7a4_38 ?_
  refine wx_iadd dJ6_bitCount_0f7a4_39 ?_
  refine wx_istore_n (i := 0) dJ6_bitCount_0f7a4_40 rfl (Nat.le_of_ble_eq_true rfl) rfl ?_
  rw [nI_ush (by omega) 8 (by decide) (by decide), nI_add, show k3 + (k3 >>> 8) = zB4 k3 from rfl]
  generalize zB4 k3 = k4 at e4 hK ⊢
  refine wx_iload_n (i := 0) dJ6_bitCount_0f7a4_41 rfl rfl ?_
  refine wx_iload_n (i := 0) dJ6_bitCount_0f7a4_42 rfl rfl ?_
  refine wx_bipush (v := 16) dJ6_bitCount_0f7a4_43 (by decide) ?_
  refine wx_iushr dJ6_bitCount_0f7a4_45 ?_
  refine wx_iadd dJ6_bitCount_0f7a4_46 ?_
  refine wx_istore_n (i := 0) dJ6_bitCount_0f7a4_47 rfl (Nat.le_of_ble_eq_true rfl) rfl ?_
  refine wx_iload_n (i := 0) dJ6_bitCount_0f7a4_48 rfl rfl ?_
  refine wx_bipush (v := 63) dJ6_bitCount_0f7a4_49 (by decide) ?_
  refine wx_iand dJ6_bitCount_0f7a4_51 ?_
  refine wx_iret dJ6_bitCount_0f7a4_52 rfl rfl (Or.inl rfl) ?_
  rw [nI_ush (by omega) 16 (by decide) (by decide), nI_add, show (63 : Int32) = nI 63 from rfl, nI_and]
  exact hK
