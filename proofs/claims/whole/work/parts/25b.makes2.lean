/-! the objects made: class and reference -/
theorem s_X9_init {d : Nat} {K : List Value → zS → Prop} {mm : zM} {rf : zR} (hN : zNo0 128 154 rf mm) (hK : ∀ (rf2 : zR) (mm2 : zM), zCr 128 154 rf rf2 → (∀ k, ¬ (128 ≤ k ∧ k < 154) → mm2 k = mm k) → mm2 128 0 = 8 → mm2 128 3 = 1000 → mm2 128 4 = -1 → mm2 128 5 = 1 → mm2 128 7 = 2 → mm2 128 8 = 0 → mm2 128 13 = 10 → mm2 128 14 = 0 → mm2 128 21 = 0 → mm2 128 24 = 0 → (∀ j, j < 45 → mm2 131 j = 5000) → (∀ k j, 129 ≤ k → k < 154 → k ≠ 131 → mm2 k j = 0) → K [] (154, rf2, mm2))  : wm (d + 5) mX9_init [.ref 128] (129, rf, mm) K := by
  obtain ⟨hr, hm⟩ := id hN
  refine wm_of2 (L0 := [some (.ref 128)]) zCm_X9_init (Or.inr rfl) (Nat.le_of_ble_eq_true rfl) rfl ?_
  refine wx_aload_n (i := 0) dX9_init_0 rfl rfl ?_
  refine wx_objInit dX9_init_1 zLk_X9_1 zOb_i zOb_c (Nat.le_of_ble_eq_true rfl) ?_
  refine wx_aload_n (i := 0) dX9_init_4 rfl rfl ?_
  refine wx_bipush (v := 8) dX9_init_5 (by decide) ?_
  refine wx_putIT (k := 128) dX9_init_7 zF_X9_7 zKo_128 rfl (Nat.le_of_ble_eq_true rfl) rfl rfl ?_
  refine wx_aload_n (i := 0) dX9_init_10 rfl rfl ?_
  refine wx_bipush (v := 16) dX9_init_11 (by decide) ?_
  refine wx_newIT (N := 16) (n0 := 129) (n1 := 130) dX9_init_13 zAi zK_129 (by (try dsimp only); (repeat rw [zU_ne (by omega)]); exact hm _ (by omega) (by omega)) ⟨by decide, by decide, by decide, by decide⟩ (by decide) (by decide) (Nat.le_of_ble_eq_true rfl) rfl ?_
  refine wx_putRT (k := 128) dX9_init_15 zF_X9_13 zKo_128 rfl (Nat.le_of_ble_eq_true rfl) rfl rfl (fun _ => rfl) (fun _ => rfl) ?_
  refine wx_aload_n (i := 0) dX9_init_18 rfl rfl ?_
  refine wx_bipush (v := 16) dX9_init_19 (by decide) ?_
  refine wx_newIT (N := 16) (n0 := 130) (n1 := 131) dX9_init_21 zAi zK_130 (by (try dsimp only); (repeat rw [zU_ne (by omega)]); exact hm _ (by omega) (by omega)) ⟨by decide, by decide, by decide, by decide⟩ (by decide) (by decide) (Nat.le_of_ble_eq_true rfl) rfl ?_
  refine wx_putRT (k := 128) dX9_init_23 zF_X9_17 zKo_128 rfl (Nat.le_of_ble_eq_true rfl) rfl rfl (fun _ => rfl) (fun _ => rfl) ?_
  refine wx_aload_n (i := 0) dX9_init_26 rfl rfl ?_
  refine wx_sipush (v := 1000) dX9_init_27 (by decide) ?_
  refine wx_putIT (k := 128) dX9_init_30 zF_X9_20 zKo_128 rfl (Nat.le_of_ble_eq_true rfl) rfl rfl ?_
  refine wx_aload_n (i := 0) dX9_init_33 rfl rfl ?_
  refine wx_iconst (v := (-1)) dX9_init_34 (by decide) ?_
  refine wx_putIT (k := 128) dX9_init_35 zF_X9_23 zKo_128 rfl (Nat.le_of_ble_eq_true rfl) rfl rfl ?_
  refine wx_aload_n (i := 0) dX9_init_38 rfl rfl ?_
  refine wx_iconst (v := 1) dX9_init_39 (by decide) ?_
  refine wx_putIT (k := 128) dX9_init_40 zF_X9_26 zKo_128 rfl (Nat.le_of_ble_eq_true rfl) rfl rfl ?_
  refine wx_aload_n (i := 0) dX9_init_43 rfl rfl ?_
  refine wx_bipush (v := 45) dX9_init_44 (by decide) ?_
  refine wx_newIT (N := 45) (n0 := 131) (n1 := 132) dX9_init_46 zAi zK_131 (by (try dsimp only); (repeat rw [zU_ne (by omega)]); exact hm _ (by omega) (by omega)) ⟨by decide, by decide, by decide, by decide⟩ (by decide) (by decide) (Nat.le_of_ble_eq_true rfl) rfl ?_
  refine wx_putRT (k := 128) dX9_init_48 zF_X9_29 zKo_128 rfl (Nat.le_of_ble_eq_true rfl) rfl rfl (fun _ => rfl) (fun _ => rfl) ?_
  refine wx_aload_n (i := 0) dX9_init_51 rfl rfl ?_
  refine wx_iconst (v := 2) dX9_init_52 (by decide) ?_
  refine wx_putIT (k := 128) dX9_init_53 zF_X9_32 zKo_128 rfl (Nat.le_of_ble_eq_true rfl) rfl rfl ?_
  refine wx_aload_n (i := 0) dX9_init_56 rfl rfl ?_
  refine wx_bipush (v := 12) dX9_init_57 (by decide) ?_
  refine wx_newIT (N := 12) (n0 := 132) (n1 := 133) dX9_init_59 zAi zK_132 (by (try dsimp only); (repeat rw [zU_ne (by omega)]); exact hm _ (by omega) (by omega)) ⟨by decide, by decide, by decide, by decide⟩ (by decide) (by decide) (Nat.le_of_ble_eq_true rfl) rfl ?_
  refine wx_putRT (k := 128) dX9_init_61 zF_X9_35 zKo_128 rfl (Nat.le_of_ble_eq_true rfl) rfl rfl (fun _ => rfl) (fun _ => rfl) ?_
  refine wx_aload_n (i := 0) dX9_init_64 rfl rfl ?_
  refine wx_bipush (v := 12) dX9_init_65 (by decide) ?_
  refine wx_newIT (N := 12) (n0 := 133) (n1 := 134) dX9_init_67 zAi zK_133 (by (try dsimp only); (repeat rw [zU_ne (by omega)]); exact hm _ (by omega) (by omega)) ⟨by decide, by decide, by decide, by decide⟩ (by decide) (by decide) (Nat.le_of_ble_eq_true rfl) rfl ?_
  refine wx_putRT (k := 128) dX9_init_69 zF_X9_38 zKo_128 rfl (Nat.le_of_ble_eq_true rfl) rfl rfl (fun _ => rfl) (fun _ => rfl) ?_
  refine wx_aload_n (i := 0) dX9_init_72 rfl rfl ?_
  refine wx_bipush (v := 12) dX9_init_73 (by decide) ?_
  refine wx_newIT (N := 12) (n0 := 134) (n1 := 135) dX9_init_75 zAi zK_134 (by (try dsimp only); (repeat rw [zU_ne (by omega)]); exact hm _ (by omega) (by omega)) ⟨by decide, by decide, by decide, by decide⟩ (by decide) (by decide) (Nat.le_of_ble_eq_true rfl) rfl ?_
  refine wx_putRT (k := 128) dX9_init_77 zF_X9_41 zKo_128 rfl (Nat.le_of_ble_eq_true rfl) rfl rfl (fun _ => rfl) (fun _ => rfl) ?_
  refine wx_aload_n (i := 0) dX9_init_80 rfl rfl ?_
  refine wx_bipush (v := 15) dX9_init_81 (by decide) ?_
  refine wx_newIT (N := 15) (n0 := 135) (n1 := 136) dX9_init_83 zAi zK_135 (by (try dsimp only); (repeat rw [zU_ne (by omega)]); exact hm _ (by omega) (by omega)) ⟨by decide, by decide, by decide, by decide⟩ (by decide) (by decide) (Nat.le_of_ble_eq_true rfl) rfl ?_
  refine wx_putRT (k := 128) dX9_init_85 zF_X9_44 zKo_128 rfl (Nat.le_of_ble_eq_true rfl) rfl rfl (fun _ => rfl) (fun _ => rfl) ?_
  refine wx_aload_n (i := 0) dX9_init_88 rfl rfl ?_
  refine wx_bipush (v := 10) dX9_init_89 (by decide) ?_
  refine wx_putIT (k := 128) dX9_init_91 zF_X9_47 zKo_128 rfl (Nat.le_of_ble_eq_true rfl) rfl rfl ?_
  refine wx_aload_n (i := 0) dX9_init_94 rfl rfl ?_
  refine wx_bipush (v := 60) dX9_init_95 (by decide) ?_
  refine wx_newIT (N := 60) (n0 := 136) (n1 := 137) dX9_init_97 zAi zK_136 (by (try dsimp only); (repeat rw [zU_ne (by omega)]); exact hm _ (by omega) (by omega)) ⟨by decide, by decide, by decide, by decide⟩ (by decide) (by decide) (Nat.le_of_ble_eq_true rfl) rfl ?_
  refine wx_putRT (k := 128) dX9_init_99 zF_X9_50 zKo_128 rfl (Nat.le_of_ble_eq_true rfl) rfl rfl (fun _ => rfl) (fun _ => rfl) ?_
  refine wx_aload_n (i := 0) dX9_init_102 rfl rfl ?_
  refine wx_bipush (v := 60) dX9_init_103 (by decide) ?_
  refine wx_newIT (N := 60) (n0 := 137) (n1 := 138) dX9_init_105 zAi zK_137 (by (try dsimp only); (repeat rw [zU_ne (by omega)]); exact hm _ (by omega) (by omega)) ⟨by decide, by decide, by decide, by decide⟩ (by decide) (by decide) (Nat.le_of_ble_eq_true rfl) rfl ?_
  refine wx_putRT (k := 128) dX9_init_107 zF_X9_53 zKo_128 rfl (Nat.le_of_ble_eq_true rfl) rfl rfl (fun _ => rfl) (fun _ => rfl) ?_
  refine wx_aload_n (i := 0) dX9_init_110 rfl rfl ?_
  refine wx_bipush (v := 60) dX9_init_111 (by decide) ?_
  refine wx_newIT (N := 60) (n0 := 138) (n1 := 139) dX9_init_113 zAi zK_138 (by (try dsimp only); (repeat rw [zU_ne (by omega)]); exact hm _ (by omega) (by omega)) ⟨by decide, by decide, by decide, by decide⟩ (by decide) (by decide) (Nat.le_of_ble_eq_true rfl) rfl ?_
  refine wx_putRT (k := 128) dX9_init_115 zF_X9_56 zKo_128 rfl (Nat.le_of_ble_eq_true rfl) rfl rfl (fun _ => rfl) (fun _ => rfl) ?_
  refine wx_aload_n (i := 0) dX9_init_118 rfl rfl ?_
  refine wx_sipush (v := 300) dX9_init_119 (by decide) ?_
  refine wx_newIT (N := 300) (n0 := 139) (n1 := 140) dX9_init_122 zAi zK_139 (by (try dsimp only); (repeat rw [zU_ne (by omega)]); exact hm _ (by omega) (by omega)) ⟨by decide, by decide, by decide, by decide⟩ (by decide) (by decide) (Nat.le_of_ble_eq_true rfl) rfl ?_
  refine wx_putRT (k := 128) dX9_init_124 zF_X9_59 zKo_128 rfl (Nat.le_of_ble_eq_true rfl) rfl rfl (fun _ => rfl) (fun _ => rfl) ?_
  refine wx_aload_n (i := 0) dX9_init_127 rfl rfl ?_
  refine wx_bipush (v := 112) dX9_init_128 (by decide) ?_
  refine wx_newIT (N := 112) (n0 := 140) (n1 := 141) dX9_init_130 zAi zK_140 (by (try dsimp only); (repeat rw [zU_ne (by omega)]); exact hm _ (by omega) (by omega)) ⟨by decide, by decide, by decide, by decide⟩ (by decide) (by decide) (Nat.le_of_ble_eq_true rfl) rfl ?_
  refine wx_putRT (k := 128) dX9_init_132 zF_X9_62 zKo_128 rfl (Nat.le_of_ble_eq_true rfl) rfl rfl (fun _ => rfl) (fun _ => rfl) ?_
  refine wx_aload_n (i := 0) dX9_init_135 rfl rfl ?_
  refine wx_bipush (v := 9) dX9_init_136 (by decide) ?_
  refine wx_newIT (N := 9) (n0 := 141) (n1 := 142) dX9_init_138 zAi zK_141 (by (try dsimp only); (repeat rw [zU_ne (by omega)]); exact hm _ (by omega) (by omega)) ⟨by decide, by decide, by decide, by decide⟩ (by decide) (by decide) (Nat.le_of_ble_eq_true rfl) rfl ?_
  refine wx_putRT (k := 128) dX9_init_140 zF_X9_65 zKo_128 rfl (Nat.le_of_ble_eq_true rfl) rfl rfl (fun _ => rfl) (fun _ => rfl) ?_
  refine wx_aload_n (i := 0) dX9_init_143 rfl rfl ?_
  refine wx_bipush (v := 6) dX9_init_144 (by decide) ?_
  refine wx_newIT (N := 6) (n0 := 142) (n1 := 143) dX9_init_146 zAi zK_142 (by (try dsimp only); (repeat rw [zU_ne (by omega)]); exact hm _ (by omega) (by omega)) ⟨by decide, by decide, by decide, by decide⟩ (by decide) (by decide) (Nat.le_of_ble_eq_true rfl) rfl ?_
  refine wx_putRT (k := 128) dX9_init_148 zF_X9_68 zKo_128 rfl (Nat.le_of_ble_eq_true rfl) rfl rfl (fun _ => rfl) (fun _ => rfl) ?_
  refine wx_aload_n (i := 0) dX9_init_151 rfl rfl ?_
  refine wx_bipush (v := 6) dX9_init_152 (by decide) ?_
  refine wx_newIT (N := 6) (n0 := 143) (n1 := 144) dX9_init_154 zAi zK_143 (by (try dsimp only); (repeat rw [zU_ne (by omega)]); exact hm _ (by omega) (by omega)) ⟨by decide, by decide, by decide, by decide⟩ (by decide) (by decide) (Nat.le_of_ble_eq_true rfl) rfl ?_
  refine wx_putRT (k := 128) dX9_init_156 zF_X9_71 zKo_128 rfl (Nat.le_of_ble_eq_true rfl) rfl rfl (fun _ => rfl) (fun _ => rfl) ?_
  refine wx_aload_n (i := 0) dX9_init_159 rfl rfl ?_
  refine wx_iconst (v := 3) dX9_init_160 (by decide) ?_
  refine wx_newIT (N := 3) (n0 := 144) (n1 := 145) dX9_init_161 zAi zK_144 (by (try dsimp only); (repeat rw [zU_ne (by omega)]); exact hm _ (by omega) (by omega)) ⟨by decide, by decide, by decide, by decide⟩ (by decide) (by decide) (Nat.le_of_ble_eq_true rfl) rfl ?_
  refine wx_putRT (k := 128) dX9_init_163 zF_X9_74 zKo_128 rfl (Nat.le_of_ble_eq_true rfl) rfl rfl (fun _ => rfl) (fun _ => rfl) ?_
  refine wx_aload_n (i := 0) dX9_init_166 rfl rfl ?_
  refine wx_iconst (v := 3) dX9_init_167 (by decide) ?_
  refine wx_newIT (N := 3) (n0 := 145) (n1 := 146) dX9_init_168 zAi zK_145 (by (try dsimp only); (repeat rw [zU_ne (by omega)]); exact hm _ (by omega) (by omega)) ⟨by decide, by decide, by decide, by decide⟩ (by decide) (by decide) (Nat.le_of_ble_eq_true rfl) rfl ?_
  refine wx_putRT (k := 128) dX9_init_170 zF_X9_77 zKo_128 rfl (Nat.le_of_ble_eq_true rfl) rfl rfl (fun _ => rfl) (fun _ => rfl) ?_
  refine wx_aload_n (i := 0) dX9_init_173 rfl rfl ?_
  refine wx_sipush (v := 24624) dX9_init_174 (by decide) ?_
  refine wx_newIT (N := 24624) (n0 := 146) (n1 := 147) dX9_init_177 zAi zK_146 (by (try dsimp only); (repeat rw [zU_ne (by omega)]); exact hm _ (by omega) (by omega)) ⟨by decide, by decide, by decide, by decide⟩ (by decide) (by decide) (Nat.le_of_ble_eq_true rfl) rfl ?_
  refine wx_putRT (k := 128) dX9_init_179 zF_X9_80 zKo_128 rfl (Nat.le_of_ble_eq_true rfl) rfl rfl (fun _ => rfl) (fun _ => rfl) ?_
  refine wx_aload_n (i := 0) dX9_init_182 rfl rfl ?_
  refine wx_bipush (v := 16) dX9_init_183 (by decide) ?_
  refine wx_newIT (N := 16) (n0 := 147) (n1 := 148) dX9_init_185 zAi zK_147 (by (try dsimp only); (repeat rw [zU_ne (by omega)]); exact hm _ (by omega) (by omega)) ⟨by decide, by decide, by decide, by decide⟩ (by decide) (by decide) (Nat.le_of_ble_eq_true rfl) rfl ?_
  refine wx_putRT (k := 128) dX9_init_187 zF_X9_83 zKo_128 rfl (Nat.le_of_ble_eq_true rfl) rfl rfl (fun _ => rfl) (fun _ => rfl) ?_
  refine wx_aload_n (i := 0) dX9_init_190 rfl rfl ?_
  refine wx_sipush (v := 2592) dX9_init_191 (by decide) ?_
  refine wx_newZT (N := 2592) (n0 := 148) (n1 := 149) dX9_init_194 zAz zK_148 (by (try dsimp only); (repeat rw [zU_ne (by omega)]); exact hm _ (by omega) (by omega)) ⟨by decide, by decide, by decide, by decide⟩ (by decide) (by decide) (Nat.le_of_ble_eq_true rfl) rfl ?_
  refine wx_putRT (k := 128) dX9_init_196 zF_X9_86 zKo_128 rfl (Nat.le_of_ble_eq_true rfl) rfl rfl (fun _ => rfl) (fun _ => rfl) ?_
  refine wx_aload_n (i := 0) dX9_init_199 rfl rfl ?_
  refine wx_bipush (v := 6) dX9_init_200 (by decide) ?_
  refine wx_newIT (N := 6) (n0 := 149) (n1 := 150) dX9_init_202 zAi zK_149 (by (try dsimp only); (repeat rw [zU_ne (by omega)]); exact hm _ (by omega) (by omega)) ⟨by decide, by decide, by decide, by decide⟩ (by decide) (by decide) (Nat.le_of_ble_eq_true rfl) rfl ?_
  refine wx_putRT (k := 128) dX9_init_204 zF_X9_90 zKo_128 rfl (Nat.le_of_ble_eq_true rfl) rfl rfl (fun _ => rfl) (fun _ => rfl) ?_
  refine wx_aload_n (i := 0) dX9_init_207 rfl rfl ?_
  refine wx_bipush (v := 6) dX9_init_208 (by decide) ?_
  refine wx_newIT (N := 6) (n0 := 150) (n1 := 151) dX9_init_210 zAi zK_150 (by (try dsimp only); (repeat rw [zU_ne (by omega)]); exact hm _ (by omega) (by omega)) ⟨by decide, by decide, by decide, by decide⟩ (by decide) (by decide) (Nat.le_of_ble_eq_true rfl) rfl ?_
  refine wx_putRT (k := 128) dX9_init_212 zF_X9_93 zKo_128 rfl (Nat.le_of_ble_eq_true rfl) rfl rfl (fun _ => rfl) (fun _ => rfl) ?_
  refine wx_aload_n (i := 0) dX9_init_215 rfl rfl ?_
  refine wx_bipush (v := 10) dX9_init_216 (by decide) ?_
  refine wx_newIT (N := 10) (n0 := 151) (n1 := 152) dX9_init_218 zAi zK_151 (by (try dsimp only); (repeat rw [zU_ne (by omega)]); exact hm _ (by omega) (by omega)) ⟨by decide, by decide, by decide, by decide⟩ (by decide) (by decide) (Nat.le_of_ble_eq_true rfl) rfl ?_
  refine wx_putRT (k := 128) dX9_init_220 zF_X9_96 zKo_128 rfl (Nat.le_of_ble_eq_true rfl) rfl rfl (fun _ => rfl) (fun _ => rfl) ?_
  refine wx_aload_n (i := 0) dX9_init_223 rfl rfl ?_
  refine wx_bipush (v := 9) dX9_init_224 (by decide) ?_
  refine wx_newIT (N := 9) (n0 := 152) (n1 := 153) dX9_init_226 zAi zK_152 (by (try dsimp only); (repeat rw [zU_ne (by omega)]); exact hm _ (by omega) (by omega)) ⟨by decide, by decide, by decide, by decide⟩ (by decide) (by decide) (Nat.le_of_ble_eq_true rfl) rfl ?_
  refine wx_putRT (k := 128) dX9_init_228 zF_X9_99 zKo_128 rfl (Nat.le_of_ble_eq_true rfl) rfl rfl (fun _ => rfl) (fun _ => rfl) ?_
  refine wx_aload_n (i := 0) dX9_init_231 rfl rfl ?_
  refine wx_ldc dX9_init_232 zKc_X9_102 ?_
  refine wx_newIT (N := 102949) (n0 := 153) (n1 := 154) dX9_init_234 zAi zK_153 (by (try dsimp only); (repeat rw [zU_ne (by omega)]); exact hm _ (by omega) (by omega)) ⟨by decide, by decide, by decide, by decide⟩ (by decide) (by decide) (Nat.le_of_ble_eq_true rfl) rfl ?_
  refine wx_putRT (k := 128) dX9_init_236 zF_X9_103 zKo_128 rfl (Nat.le_of_ble_eq_true rfl) rfl rfl (fun _ => rfl) (fun _ => rfl) ?_
  refine wx_aload_n (i := 0) dX9_init_239 rfl rfl ?_
  refine wx_bipush (v := 8) dX9_init_240 (by decide) ?_
  refine wx_V1 dX9_init_242 zPV_X9_begins zLk_X9_106 rfl (Nat.le_of_ble_eq_true rfl) (Nat.le_of_ble_eq_true rfl) (Or.inl (Nat.le_of_ble_eq_true rfl)) ?_
  refine s_X9_begins (by rfl) (by rfl) (by rfl) (by rfl) ?_
  refine wx_r0 ?_
  refine wx_vret dX9_init_245 rfl (Or.inr rfl) ?_
  refine hK _ _ ⟨fun k w => ?_, fun k w1 w2 => ?_⟩ (fun k w => ?_) ?_ ?_ ?_ ?_ ?_ ?_ ?_ ?_ ?_ ?_ ?_ ?_
  · (repeat rw [zUr_ne (by omega)])
  · by_cases e : k = 128
    · subst e
      rw [zRF_ob (l := [none, some 129, some 130, none, none, none, some 131, none, none, some 132, some 133, some 134, some 135, none, none, some 136, some 137, some 138, some 139, some 140, some 141, none, some 142, some 143, none, some 144, some 145, none, some 146, some 147, some 148, some 149, some 150, none, some 151, some 152, some 153]) (by decide) (by rw [zKo_128]; decide) (by decide +kernel)]
      funext i
      (repeat rw [zUr_at])
      rw [hr 128 (by omega) (by omega)]
      unfold va_up
      rcases (by omega : i = 0 ∨ i = 1 ∨ i = 2 ∨ i = 3 ∨ i = 4 ∨ i = 5 ∨ i = 6 ∨ i = 7 ∨ i = 8 ∨ i = 9 ∨ i = 10 ∨ i = 11 ∨ i = 12 ∨ i = 13 ∨ i = 14 ∨ i = 15 ∨ i = 16 ∨ i = 17 ∨ i = 18 ∨ i = 19 ∨ i = 20 ∨ i = 21 ∨ i = 22 ∨ i = 23 ∨ i = 24 ∨ i = 25 ∨ i = 26 ∨ i = 27 ∨ i = 28 ∨ i = 29 ∨ i = 30 ∨ i = 31 ∨ i = 32 ∨ i = 33 ∨ i = 34 ∨ i = 35 ∨ i = 36 ∨ 37 ≤ i) with rfl | rfl | rfl | rfl | rfl | rfl | rfl | rfl | rfl | rfl | rfl | rfl | rfl | rfl | rfl | rfl | rfl | rfl | rfl | rfl | rfl | rfl | rfl | rfl | rfl | rfl | rfl | rfl | rfl | rfl | rfl | rfl | rfl | rfl | rfl | rfl | rfl | hi
      · rfl
      · rfl
      · rfl
      · rfl
      · rfl
      · rfl
      · rfl
      · rfl
      · rfl
      · rfl
      · rfl
      · rfl
      · rfl
      · rfl
      · rfl
      · rfl
      · rfl
      · rfl
      · rfl
      · rfl
      · rfl
      · rfl
      · rfl
      · rfl
      · rfl
      · rfl
      · rfl
      · rfl
      · rfl
      · rfl
      · rfl
      · rfl
      · rfl
      · rfl
      · rfl
      · rfl
      · rfl
      · (repeat rw [if_neg (by omega)])
        rw [List.getD_eq_getElem?_getD, List.getElem?_eq_none hi]; rfl
    rw [zRF_arr (by omega) (zK_arr k (by omega) (by omega))]
    (repeat rw [zUr_ne (by omega)])
    exact hr k w1 w2
  · unfold zBg
    (repeat first | rw [zU_ne (by omega)] | rw [zFl_off (by omega)])
  · unfold zBg
    (repeat first | rw [zU_same] | rw [zU_off (by omega)] | rw [zFl_off (by omega)])
  · unfold zBg
    (repeat first | rw [zU_same] | rw [zU_off (by omega)] | rw [zFl_off (by omega)])
  · unfold zBg
    (repeat first | rw [zU_same] | rw [zU_off (by omega)] | rw [zFl_off (by omega)])
  · unfold zBg
    (repeat first | rw [zU_same] | rw [zU_off (by omega)] | rw [zFl_off (by omega)])
  · unfold zBg
    (repeat first | rw [zU_same] | rw [zU_off (by omega)] | rw [zFl_off (by omega)])
  · unfold zBg
    (repeat first | rw [zU_same] | rw [zU_off (by omega)] | rw [zFl_off (by omega)])
  · unfold zBg
    (repeat first | rw [zU_same] | rw [zU_off (by omega)] | rw [zFl_off (by omega)])
  · unfold zBg
    (repeat first | rw [zU_same] | rw [zU_off (by omega)] | rw [zFl_off (by omega)])
  · unfold zBg
    (repeat first | rw [zU_same] | rw [zU_off (by omega)] | rw [zFl_off (by omega)])
    rw [hm 128 (by omega) (by omega)]
  · unfold zBg
    (repeat first | rw [zU_same] | rw [zU_off (by omega)] | rw [zFl_off (by omega)])
    rw [hm 128 (by omega) (by omega)]
  · intro j hj
    unfold zBg
    (repeat first | rw [zFl_in hj] | rw [zU_ne (by omega)] | rw [zFl_off (by omega)])
  · intro k j w1 w2 w3
    unfold zBg
    have h0 : ∀ (X : zM) (a n : Nat), X k j = 0 → zFl X a n 0 k j = 0 := fun X a n h => by
      by_cases e : k = a
      · subst e
        unfold zFl va_up
        rw [if_pos rfl]
        by_cases q : j < n
        · exact if_pos q
        · exact (if_neg q).trans h
      · rw [zFl_off e]; exact h
    rw [zU_ne (by omega), zU_ne (by omega)]
    refine h0 _ _ _ ?_
    rw [zFl_off w3]
    refine h0 _ _ _ (h0 _ _ _ ?_)
    (repeat rw [zU_ne (by omega)])
    rw [hm k (by omega) (by omega)]
theorem s_X8_init {d : Nat} {K : List Value → zS → Prop} {mm : zM} {rf : zR} (hN : zNo0 0 128 rf mm) (hK : ∀ (rf2 : zR) (mm2 : zM), zCr 0 128 rf rf2 → (∀ k, 128 ≤ k → mm2 k = mm k) → mm2 0 8 = 8 → (mm2 1 0 = 1000 ∧ mm2 1 1 = -1 ∧ mm2 1 2 = 1) → (mm2 2 7 = 2 ∧ mm2 2 8 = 8 ∧ mm2 2 11 = 0 ∧ mm2 7 0 = 0 ∧ ∀ t i, t < 3 → i < 15 → mm2 (3 + 1 + t) i = 5000) → mm2 13 4 = 0 → (mm2 17 7 = 8 ∧ mm2 17 8 = 0 ∧ mm2 17 9 = 10 ∧ mm2 17 10 = 0 ∧ ∀ k, 18 ≤ k → k < 88 → mm2 k = fun _ => 0) → (∀ t, t < 3 → mm2 95 t = -1) → (mm2 98 4 = 8 ∧ mm2 98 6 = 0 ∧ ∀ k, 99 ≤ k → k < 114 → mm2 k = fun _ => 0) → (mm2 114 2 = 0 ∧ ∀ k, 115 ≤ k → k < 117 → mm2 k = fun _ => 0) → (mm2 117 3 = 0 ∧ mm2 117 4 = 0 ∧ mm2 117 5 = 0 ∧ ∀ k, 118 ≤ k → k < 128 → mm2 k = fun _ => 0) → K [] (128, rf2, mm2))  : wm (d + 8) mX8_init [.ref 0] (1, rf, mm) K := by
  obtain ⟨hr, hm⟩ := id hN
  refine wm_of2 (L0 := [some (.ref 0)]) zCm_X8_init (Or.inr rfl) (Nat.le_of_ble_eq_true rfl) rfl ?_
  refine wx_aload_n (i := 0) dX8_init_0 rfl rfl ?_
  refine wx_objInit dX8_init_1 zLk_X8_3 zOb_i zOb_c (Nat.le_of_ble_eq_true rfl) ?_
  refine wx_aload_n (i := 0) dX8_init_4 rfl rfl ?_
  refine wx_newT (n0 := 1) (n1 := 2) dX8_init_5 zNc_X8_9 zKo_1 (by (try dsimp only); exact hr _ (by omega) (by omega)) (by (try dsimp only); exact hm _ (by omega) (by omega)) ⟨by decide, by decide, by decide, by decide⟩ rfl ?_
  refine wx_dup dX8_init_8 rfl ?_
  refine wx_IN0 dX8_init_9 zCm_X1_init zII_X1_init zLn_X8_11 zNp_X1_init rfl rfl (Nat.le_of_ble_eq_true rfl) (Or.inl rfl) (Or.inl (Nat.le_of_ble_eq_true rfl)) ?_
  refine s_X1_init ?_
  refine wx_r0 ?_
  refine wx_putRT (k := 0) dX8_init_12 zF_X8_12 zKo_0 rfl (Nat.le_of_ble_eq_true rfl) rfl rfl (fun _ => rfl) (fun _ => rfl) ?_
  refine wx_aload_n (i := 0) dX8_init_15 rfl rfl ?_
  refine wx_newT (n0 := 2) (n1 := 3) dX8_init_16 zNc_X8_16 zKo_2 (by (try dsimp only); rw [zUr_ne (by omega)]; exact hr _ (by omega) (by omega)) (by (try dsimp only); rw [zU_ne (by omega), zU_ne (by omega), zU_ne (by omega)]; exact hm _ (by omega) (by omega)) ⟨by decide, by decide, by decide, by decide⟩ rfl ?_
  refine wx_dup dX8_init_19 rfl ?_
  refine wx_I0 dX8_init_20 zCm_X3_init zII_X3_init zLk_X8_18 zNp_X3_init rfl rfl (Nat.le_of_ble_eq_true rfl) (Or.inr ⟨by decide, by decide, rfl, by decide, by decide, by decide⟩) (Or.inl (Nat.le_of_ble_eq_true rfl)) ?_
  refine s_X3_init ⟨fun k a b => by rw [zUr_ne (by omega)]; exact hr k (by omega) (by omega), fun k a b => by rw [zU_ne (by omega), zU_ne (by omega), zU_ne (by omega)]; exact hm k (by omega) (by omega)⟩ (fun rf0 mm0 c0 m0 x0_0 x0_1 x0_2 x0_3 x0_4 => ?_)
  refine wx_r0 ?_
  refine wx_putRT (k := 0) dX8_init_23 zF_X8_19 zKo_0 rfl (Nat.le_of_ble_eq_true rfl) rfl rfl (fun _ => rfl) (fun _ => rfl) ?_
  refine wx_aload_n (i := 0) dX8_init_26 rfl rfl ?_
  refine wx_newT (n0 := 13) (n1 := 14) dX8_init_27 zNc_X8_23 zKo_13 (by (try dsimp only); rw [zUr_ne (by omega), c0.1 _ (by omega), zUr_ne (by omega)]; exact hr _ (by omega) (by omega)) (by (try dsimp only); rw [m0 _ (by omega), zU_ne (by omega), zU_ne (by omega), zU_ne (by omega)]; exact hm _ (by omega) (by omega)) ⟨by decide, by decide, by decide, by decide⟩ rfl ?_
  refine wx_dup dX8_init_30 rfl ?_
  refine wx_aload_n (i := 0) dX8_init_31 rfl rfl ?_
  refine wx_getR (k := 0) (t := 2) dX8_init_32 zF_X8_19 zKo_0 rfl (Nat.le_of_ble_eq_true rfl) rfl ?_
  refine wx_I1 dX8_init_35 zCm_X7_init zII_X7_init zLk_X8_25 zNp_X7_init rfl rfl (Nat.le_of_ble_eq_true rfl) (Or.inr ⟨by decide, by decide, rfl, by decide, by decide, by decide⟩) (Or.inl (Nat.le_of_ble_eq_true rfl)) ?_
  refine s_X7_init ⟨fun k a b => by rw [zUr_ne (by omega), c0.1 _ (by omega), zUr_ne (by omega)]; exact hr k (by omega) (by omega), fun k a b => by rw [m0 _ (by omega), zU_ne (by omega), zU_ne (by omega), zU_ne (by omega)]; exact hm k (by omega) (by omega)⟩ (fun rf1 mm1 c1 m1 x1_0 x1_1 => ?_)
  refine wx_r0 ?_
  refine wx_putRT (k := 0) dX8_init_38 zF_X8_28 zKo_0 rfl (Nat.le_of_ble_eq_true rfl) rfl rfl (fun _ => rfl) (fun _ => rfl) ?_
  refine wx_aload_n (i := 0) dX8_init_41 rfl rfl ?_
  refine wx_newT (n0 := 17) (n1 := 18) dX8_init_42 zNc_X8_32 zKo_17 (by (try dsimp only); rw [zUr_ne (by omega), c1.1 _ (by omega), zUr_ne (by omega), c0.1 _ (by omega), zUr_ne (by omega)]; exact hr _ (by omega) (by omega)) (by (try dsimp only); rw [m1 _ (by omega), m0 _ (by omega), zU_ne (by omega), zU_ne (by omega), zU_ne (by omega)]; exact hm _ (by omega) (by omega)) ⟨by decide, by decide, by decide, by decide⟩ rfl ?_
  refine wx_dup dX8_init_45 rfl ?_
  refine wx_IN0 dX8_init_46 zCm_X0_init zII_X0_init zLn_X8_34 zNp_X0_init rfl rfl (Nat.le_of_ble_eq_true rfl) (Or.inr ⟨by decide, by decide, rfl, by decide, by decide, by decide⟩) (Or.inl (Nat.le_of_ble_eq_true rfl)) ?_
  refine s_X0_init ⟨fun k a b => by rw [zUr_ne (by omega), c1.1 _ (by omega), zUr_ne (by omega), c0.1 _ (by omega), zUr_ne (by omega)]; exact hr k (by omega) (by omega), fun k a b => by rw [m1 _ (by omega), m0 _ (by omega), zU_ne (by omega), zU_ne (by omega), zU_ne (by omega)]; exact hm k (by omega) (by omega)⟩ (fun rf2 mm2 c2 m2 x2_0 x2_1 x2_2 x2_3 x2_4 => ?_)
  refine wx_r0 ?_
  refine wx_putRT (k := 0) dX8_init_49 zF_X8_35 zKo_0 rfl (Nat.le_of_ble_eq_true rfl) rfl rfl (fun _ => rfl) (fun _ => rfl) ?_
  refine wx_aload_n (i := 0) dX8_init_52 rfl rfl ?_
  refine wx_newT (n0 := 88) (n1 := 89) dX8_init_53 zNc_X8_39 zKo_88 (by (try dsimp only); rw [zUr_ne (by omega), c2.1 _ (by omega), zUr_ne (by omega), c1.1 _ (by omega), zUr_ne (by omega), c0.1 _ (by omega), zUr_ne (by omega)]; exact hr _ (by omega) (by omega)) (by (try dsimp only); rw [m2 _ (by omega), m1 _ (by omega), m0 _ (by omega), zU_ne (by omega), zU_ne (by omega), zU_ne (by omega)]; exact hm _ (by omega) (by omega)) ⟨by decide, by decide, by decide, by decide⟩ rfl ?_
  refine wx_dup dX8_init_56 rfl ?_
  refine wx_aload_n (i := 0) dX8_init_57 rfl rfl ?_
  refine wx_getR (k := 0) (t := 17) dX8_init_58 zF_X8_35 zKo_0 rfl (Nat.le_of_ble_eq_true rfl) rfl ?_
  refine wx_I1 dX8_init_61 zCm_X4_init zII_X4_init zLk_X8_41 zNp_X4_init rfl rfl (Nat.le_of_ble_eq_true rfl) (Or.inr ⟨by decide, by decide, rfl, by decide, by decide, by decide⟩) (Or.inl (Nat.le_of_ble_eq_true rfl)) ?_
  refine s_X4_init ⟨fun k a b => by rw [zUr_ne (by omega), c2.1 _ (by omega), zUr_ne (by omega), c1.1 _ (by omega), zUr_ne (by omega), c0.1 _ (by omega), zUr_ne (by omega)]; exact hr k (by omega) (by omega), fun k a b => by rw [m2 _ (by omega), m1 _ (by omega), m0 _ (by omega), zU_ne (by omega), zU_ne (by omega), zU_ne (by omega)]; exact hm k (by omega) (by omega)⟩ (fun rf3 mm3 c3 m3 x3_0 => ?_)
  refine wx_r0 ?_
  refine wx_putRT (k := 0) dX8_init_64 zF_X8_44 zKo_0 rfl (Nat.le_of_ble_eq_true rfl) rfl rfl (fun _ => rfl) (fun _ => rfl) ?_
  refine wx_aload_n (i := 0) dX8_init_67 rfl rfl ?_
  refine wx_newT (n0 := 98) (n1 := 99) dX8_init_68 zNc_X8_48 zKo_98 (by (try dsimp only); rw [zUr_ne (by omega), c3.1 _ (by omega), zUr_ne (by omega), c2.1 _ (by omega), zUr_ne (by omega), c1.1 _ (by omega), zUr_ne (by omega), c0.1 _ (by omega), zUr_ne (by omega)]; exact hr _ (by omega) (by omega)) (by (try dsimp only); rw [m3 _ (by omega), m2 _ (by omega), m1 _ (by omega), m0 _ (by omega), zU_ne (by omega), zU_ne (by omega), zU_ne (by omega)]; exact hm _ (by omega) (by omega)) ⟨by decide, by decide, by decide, by decide⟩ rfl ?_
  refine wx_dup dX8_init_71 rfl ?_
  refine wx_IN0 dX8_init_72 zCm_X5_init zII_X5_init zLn_X8_50 zNp_X5_init rfl rfl (Nat.le_of_ble_eq_true rfl) (Or.inr ⟨by decide, by decide, rfl, by decide, by decide, by decide⟩) (Or.inl (Nat.le_of_ble_eq_true rfl)) ?_
  refine s_X5_init ⟨fun k a b => by rw [zUr_ne (by omega), c3.1 _ (by omega), zUr_ne (by omega), c2.1 _ (by omega), zUr_ne (by omega), c1.1 _ (by omega), zUr_ne (by omega), c0.1 _ (by omega), zUr_ne (by omega)]; exact hr k (by omega) (by omega), fun k a b => by rw [m3 _ (by omega), m2 _ (by omega), m1 _ (by omega), m0 _ (by omega), zU_ne (by omega), zU_ne (by omega), zU_ne (by omega)]; exact hm k (by omega) (by omega)⟩ (fun rf4 mm4 c4 m4 x4_0 x4_1 x4_2 => ?_)
  refine wx_r0 ?_
  refine wx_putRT (k := 0) dX8_init_75 zF_X8_51 zKo_0 rfl (Nat.le_of_ble_eq_true rfl) rfl rfl (fun _ => rfl) (fun _ => rfl) ?_
  refine wx_aload_n (i := 0) dX8_init_78 rfl rfl ?_
  refine wx_newT (n0 := 114) (n1 := 115) dX8_init_79 zNc_X8_55 zKo_114 (by (try dsimp only); rw [zUr_ne (by omega), c4.1 _ (by omega), zUr_ne (by omega), c3.1 _ (by omega), zUr_ne (by omega), c2.1 _ (by omega), zUr_ne (by omega), c1.1 _ (by omega), zUr_ne (by omega), c0.1 _ (by omega), zUr_ne (by omega)]; exact hr _ (by omega) (by omega)) (by (try dsimp only); rw [m4 _ (by omega), m3 _ (by omega), m2 _ (by omega), m1 _ (by omega), m0 _ (by omega), zU_ne (by omega), zU_ne (by omega), zU_ne (by omega)]; exact hm _ (by omega) (by omega)) ⟨by decide, by decide, by decide, by decide⟩ rfl ?_
  refine wx_dup dX8_init_82 rfl ?_
  refine wx_IN0 dX8_init_83 zCm_X6_init zII_X6_init zLn_X8_57 zNp_X6_init rfl rfl (Nat.le_of_ble_eq_true rfl) (Or.inr ⟨by decide, by decide, rfl, by decide, by decide, by decide⟩) (Or.inl (Nat.le_of_ble_eq_true rfl)) ?_
  refine s_X6_init ⟨fun k a b => by rw [zUr_ne (by omega), c4.1 _ (by omega), zUr_ne (by omega), c3.1 _ (by omega), zUr_ne (by omega), c2.1 _ (by omega), zUr_ne (by omega), c1.1 _ (by omega), zUr_ne (by omega), c0.1 _ (by omega), zUr_ne (by omega)]; exact hr k (by omega) (by omega), fun k a b => by rw [m4 _ (by omega), m3 _ (by omega), m2 _ (by omega), m1 _ (by omega), m0 _ (by omega), zU_ne (by omega), zU_ne (by omega), zU_ne (by omega)]; exact hm k (by omega) (by omega)⟩ (fun rf5 mm5 c5 m5 x5_0 x5_1 => ?_)
  refine wx_r0 ?_
  refine wx_putRT (k := 0) dX8_init_86 zF_X8_58 zKo_0 rfl (Nat.le_of_ble_eq_true rfl) rfl rfl (fun _ => rfl) (fun _ => rfl) ?_
  refine wx_aload_n (i := 0) dX8_init_89 rfl rfl ?_
  refine wx_newT (n0 := 117) (n1 := 118) dX8_init_90 zNc_X8_62 zKo_117 (by (try dsimp only); rw [zUr_ne (by omega), c5.1 _ (by omega), zUr_ne (by omega), c4.1 _ (by omega), zUr_ne (by omega), c3.1 _ (by omega), zUr_ne (by omega), c2.1 _ (by omega), zUr_ne (by omega), c1.1 _ (by omega), zUr_ne (by omega), c0.1 _ (by omega), zUr_ne (by omega)]; exact hr _ (by omega) (by omega)) (by (try dsimp only); rw [m5 _ (by omega), m4 _ (by omega), m3 _ (by omega), m2 _ (by omega), m1 _ (by omega), m0 _ (by omega), zU_ne (by omega), zU_ne (by omega), zU_ne (by omega)]; exact hm _ (by omega) (by omega)) ⟨by decide, by decide, by decide, by decide⟩ rfl ?_
  refine wx_dup dX8_init_93 rfl ?_
  refine wx_IN0 dX8_init_94 zCm_X2_init zII_X2_init zLn_X8_64 zNp_X2_init rfl rfl (Nat.le_of_ble_eq_true rfl) (Or.inr ⟨by decide, by decide, rfl, by decide, by decide, by decide⟩) (Or.inl (Nat.le_of_ble_eq_true rfl)) ?_
  refine s_X2_init ⟨fun k a b => by rw [zUr_ne (by omega), c5.1 _ (by omega), zUr_ne (by omega), c4.1 _ (by omega), zUr_ne (by omega), c3.1 _ (by omega), zUr_ne (by omega), c2.1 _ (by omega), zUr_ne (by omega), c1.1 _ (by omega), zUr_ne (by omega), c0.1 _ (by omega), zUr_ne (by omega)]; exact hr k (by omega) (by omega), fun k a b => by rw [m5 _ (by omega), m4 _ (by omega), m3 _ (by omega), m2 _ (by omega), m1 _ (by omega), m0 _ (by omega), zU_ne (by omega), zU_ne (by omega), zU_ne (by omega)]; exact hm k (by omega) (by omega)⟩ (fun rf6 mm6 c6 m6 x6_0 x6_1 x6_2 x6_3 => ?_)
  refine wx_r0 ?_
  refine wx_putRT (k := 0) dX8_init_97 zF_X8_65 zKo_0 rfl (Nat.le_of_ble_eq_true rfl) rfl rfl (fun _ => rfl) (fun _ => rfl) ?_
  refine wx_aload_n (i := 0) dX8_init_100 rfl rfl ?_
  refine wx_bipush (v := 8) dX8_init_101 (by decide) ?_
  refine wx_putIT (k := 0) dX8_init_103 zF_X8_69 zKo_0 rfl (Nat.le_of_ble_eq_true rfl) rfl rfl ?_
  refine wx_vret dX8_init_106 rfl (Or.inr rfl) ?_
  refine hK _ _ ⟨fun k w => ?_, fun k w1 w2 => ?_⟩ (fun k w => ?_) ?_ ?_ ?_ ?_ ?_ ?_ ?_ ?_ ?_
  · rw [zUr_ne (by omega), c6.1 _ (by omega), zUr_ne (by omega), c5.1 _ (by omega), zUr_ne (by omega), c4.1 _ (by omega), zUr_ne (by omega), c3.1 _ (by omega), zUr_ne (by omega), c2.1 _ (by omega), zUr_ne (by omega), c1.1 _ (by omega), zUr_ne (by omega), c0.1 _ (by omega), zUr_ne (by omega)]
  · by_cases e : k = 0
    · subst e
      rw [zRF_ob (l := [some 1, some 2, some 13, some 17, some 88, some 98, some 114, some 117, none]) (by decide) (by rw [zKo_0]; decide) (by decide +kernel)]
      funext i
      rw [zUr_at, c6.1 _ (by omega), zUr_at, c5.1 _ (by omega), zUr_at, c4.1 _ (by omega), zUr_at, c3.1 _ (by omega), zUr_at, c2.1 _ (by omega), zUr_at, c1.1 _ (by omega), zUr_at, c0.1 _ (by omega), zUr_at, hr 0 (by omega) (by omega)]
      unfold va_up
      rcases (by omega : i = 0 ∨ i = 1 ∨ i = 2 ∨ i = 3 ∨ i = 4 ∨ i = 5 ∨ i = 6 ∨ i = 7 ∨ i = 8 ∨ 9 ≤ i) with rfl | rfl | rfl | rfl | rfl | rfl | rfl | rfl | rfl | hi
      · rfl
      · rfl
      · rfl
      · rfl
      · rfl
      · rfl
      · rfl
      · rfl
      · rfl
      · (repeat rw [if_neg (by omega)])
        rw [List.getD_eq_getElem?_getD, List.getElem?_eq_none hi]; rfl
    by_cases e1 : k = 1
    · subst e1
      rw [zRF_ob (l := [none, none, none]) (by decide) (by rw [zKo_1]; decide) (by decide +kernel), zUr_ne (by omega), c6.1 _ (by omega), zUr_ne (by omega), c5.1 _ (by omega), zUr_ne (by omega), c4.1 _ (by omega), zUr_ne (by omega), c3.1 _ (by omega), zUr_ne (by omega), c2.1 _ (by omega), zUr_ne (by omega), c1.1 _ (by omega), zUr_ne (by omega), c0.1 _ (by omega), zUr_ne (by omega), hr 1 (by omega) (by omega)]
      funext i
      rcases (by omega : i = 0 ∨ i = 1 ∨ i = 2 ∨ 3 ≤ i) with rfl | rfl | rfl | hi
      · rfl
      · rfl
      · rfl
      · rw [List.getD_eq_getElem?_getD, List.getElem?_eq_none hi]; rfl
    by_cases g0 : k < 13
    · rw [zUr_ne (by omega), c6.1 _ (by omega), zUr_ne (by omega), c5.1 _ (by omega), zUr_ne (by omega), c4.1 _ (by omega), zUr_ne (by omega), c3.1 _ (by omega), zUr_ne (by omega), c2.1 _ (by omega), zUr_ne (by omega), c1.1 _ (by omega), zUr_ne (by omega)]
      exact c0.2 k (by omega) (by omega)
    by_cases g1 : k < 17
    · rw [zUr_ne (by omega), c6.1 _ (by omega), zUr_ne (by omega), c5.1 _ (by omega), zUr_ne (by omega), c4.1 _ (by omega), zUr_ne (by omega), c3.1 _ (by omega), zUr_ne (by omega), c2.1 _ (by omega), zUr_ne (by omega)]
      exact c1.2 k (by omega) (by omega)
    by_cases g2 : k < 88
    · rw [zUr_ne (by omega), c6.1 _ (by omega), zUr_ne (by omega), c5.1 _ (by omega), zUr_ne (by omega), c4.1 _ (by omega), zUr_ne (by omega), c3.1 _ (by omega), zUr_ne (by omega)]
      exact c2.2 k (by omega) (by omega)
    by_cases g3 : k < 98
    · rw [zUr_ne (by omega), c6.1 _ (by omega), zUr_ne (by omega), c5.1 _ (by omega), zUr_ne (by omega), c4.1 _ (by omega), zUr_ne (by omega)]
      exact c3.2 k (by omega) (by omega)
    by_cases g4 : k < 114
    · rw [zUr_ne (by omega), c6.1 _ (by omega), zUr_ne (by omega), c5.1 _ (by omega), zUr_ne (by omega)]
      exact c4.2 k (by omega) (by omega)
    by_cases g5 : k < 117
    · rw [zUr_ne (by omega), c6.1 _ (by omega), zUr_ne (by omega)]
      exact c5.2 k (by omega) (by omega)
    rw [zUr_ne (by omega)]
    exact c6.2 k (by omega) (by omega)
  · rw [zU_ne (by omega), m6 _ (by omega), m5 _ (by omega), m4 _ (by omega), m3 _ (by omega), m2 _ (by omega), m1 _ (by omega), m0 _ (by omega), zU_ne (by omega), zU_ne (by omega), zU_ne (by omega)]
  · rw [zU_same]
  · refine ⟨?_, ?_, ?_⟩
    · rw [zU_ne (by omega), m6 _ (by omega), m5 _ (by omega), m4 _ (by omega), m3 _ (by omega), m2 _ (by omega), m1 _ (by omega), m0 _ (by omega), zU_off (by omega), zU_off (by omega), zU_same]
    · rw [zU_ne (by omega), m6 _ (by omega), m5 _ (by omega), m4 _ (by omega), m3 _ (by omega), m2 _ (by omega), m1 _ (by omega), m0 _ (by omega), zU_off (by omega), zU_same]
    · rw [zU_ne (by omega), m6 _ (by omega), m5 _ (by omega), m4 _ (by omega), m3 _ (by omega), m2 _ (by omega), m1 _ (by omega), m0 _ (by omega), zU_same]
  · refine ⟨?_, ?_, ?_, ?_, ?_⟩
    · rw [zU_ne (by omega), m6 _ (by omega), m5 _ (by omega), m4 _ (by omega), m3 _ (by omega), m2 _ (by omega), m1 _ (by omega)]; exact x0_0
    · rw [zU_ne (by omega), m6 _ (by omega), m5 _ (by omega), m4 _ (by omega), m3 _ (by omega), m2 _ (by omega), m1 _ (by omega)]; exact x0_1
    · rw [zU_ne (by omega), m6 _ (by omega), m5 _ (by omega), m4 _ (by omega), m3 _ (by omega), m2 _ (by omega), m1 _ (by omega)]; exact x0_2
    · rw [zU_ne (by omega), m6 _ (by omega), m5 _ (by omega), m4 _ (by omega), m3 _ (by omega), m2 _ (by omega), m1 _ (by omega)]; exact x0_3
    · intro t i a b; rw [zU_ne (by omega), m6 _ (by omega), m5 _ (by omega), m4 _ (by omega), m3 _ (by omega), m2 _ (by omega), m1 _ (by omega)]; exact x0_4 t i a b
  · rw [zU_ne (by omega), m6 _ (by omega), m5 _ (by omega), m4 _ (by omega), m3 _ (by omega), m2 _ (by omega)]; exact x1_0
  · refine ⟨?_, ?_, ?_, ?_, ?_⟩
    · rw [zU_ne (by omega), m6 _ (by omega), m5 _ (by omega), m4 _ (by omega), m3 _ (by omega)]; exact x2_0
    · rw [zU_ne (by omega), m6 _ (by omega), m5 _ (by omega), m4 _ (by omega), m3 _ (by omega)]; exact x2_1
    · rw [zU_ne (by omega), m6 _ (by omega), m5 _ (by omega), m4 _ (by omega), m3 _ (by omega)]; exact x2_2
    · rw [zU_ne (by omega), m6 _ (by omega), m5 _ (by omega), m4 _ (by omega), m3 _ (by omega)]; exact x2_3
    · intro k w1 w2; rw [zU_ne (by omega), m6 _ (by omega), m5 _ (by omega), m4 _ (by omega), m3 _ (by omega)]; exact x2_4 k w1 w2
  · intro t ht; rw [zU_ne (by omega), m6 _ (by omega), m5 _ (by omega), m4 _ (by omega)]; exact x3_0 t ht
  · refine ⟨?_, ?_, ?_⟩
    · rw [zU_ne (by omega), m6 _ (by omega), m5 _ (by omega)]; exact x4_0
    · rw [zU_ne (by omega), m6 _ (by omega), m5 _ (by omega)]; exact x4_1
    · intro k w1 w2; rw [zU_ne (by omega), m6 _ (by omega), m5 _ (by omega)]; exact x4_2 k w1 w2
  · refine ⟨?_, ?_⟩
    · rw [zU_ne (by omega), m6 _ (by omega)]; exact x5_0
    · intro k w1 w2; rw [zU_ne (by omega), m6 _ (by omega)]; exact x5_1 k w1 w2
  · refine ⟨?_, ?_, ?_, ?_⟩
    · rw [zU_ne (by omega)]; exact x6_0
    · rw [zU_ne (by omega)]; exact x6_1
    · rw [zU_ne (by omega)]; exact x6_2
    · intro k w1 w2; rw [zU_ne (by omega)]; exact x6_3 k w1 w2
