/-! facts of the words, the world as a list, the places -/
theorem zT_good {w : Cond} (h : w ∈ zT) : goodWord w = true := (List.mem_filter.mp h).2
theorem zT_of {w : Cond} (i : Nat) (h : lw_tbl[i]? = some w) (g : goodWord w = true) : w ∈ zT := List.mem_filter.mpr ⟨List.mem_of_getElem? h, g⟩
theorem zT_pay {args : Array Value} {s : State} (hts : ∀ w ∈ zT, w.before args s = true) {M : zMt} (hc : Cond.code M.1 M.2.1 M.2.2.1 M.2.2.2.1 ∈ zT) : ∀ w ∈ zWd M, ∀ (a' : Array Value) (U : State), s.WarmedH U.vm → w.before a' U = true :=
  pay_in hts (fun w hw => by
    have h : w ∈ zT := by
      rcases List.mem_cons.mp hw with e | h
      · rw [e]; exact hc
      · exact h
    exact ⟨h, good_of_word (zT_good h)⟩)
theorem zAO_moved {u U : State} (hvm : u.vm.Alike U.vm) (h : (Cond.arrayOver (.array .int)).before #[] u = true) : (Cond.arrayOver (.array .int)).before #[] U = true := by
  have h1 : (Cond.arrayOver (.array .int)).before #[] (u.setVm U.vm) = true := Cond.overAtom_setVm hvm _ rfl h
  exact h1
theorem zNw_warm {s U : State} (hW : s.WarmedH U.vm) (h : zNw s) : zNw U := by
  refine ⟨fun w hw => ?_, zAO_moved hW.alike h.2⟩
  have h1 := h.1 w hw
  simp only [zNest, List.mem_cons, List.not_mem_nil, or_false] at hw
  rcases hw with rfl | rfl | rfl | rfl | rfl | rfl <;> exact va_Nw.warmM hW h1
theorem zNw_same {s U : State} (e : s.vm = U.vm) (h : zNw s) : zNw U := by
  refine ⟨fun w hw => ?_, zAO_moved (by rw [e]; exact Vm.Alike.refl U.vm) h.2⟩
  have h1 := h.1 w hw
  refine va_Nw.same ?_ e h1
  simp only [zNest, List.mem_cons, List.not_mem_nil, or_false] at hw
  rcases hw with rfl | rfl | rfl | rfl | rfl | rfl <;> rfl
theorem zWs_get {X : zX} {σ : zS} {k : Nat} (h : k < σ.1) : (zWs X σ)[k]? = some (X.2.1 + k, zE X σ.2.1 σ.2.2 k) := by
  simp [zWs, h]
theorem zWs_none {X : zX} {σ : zS} {k : Nat} (h : σ.1 ≤ k) : (zWs X σ)[k]? = none := by
  simp [zWs, h]
theorem zWs_of {X : zX} {σ : zS} {k : Nat} {q : Nat × va_E} (h : (zWs X σ)[k]? = some q) : k < σ.1 ∧ q = (X.2.1 + k, zE X σ.2.1 σ.2.2 k) := by
  rcases Nat.lt_or_ge k σ.1 with h1 | h1
  · exact ⟨h1, (Option.some.inj ((zWs_get h1).symm.trans h)).symm⟩
  · rw [zWs_none h1] at h; cases h
theorem zWs_D {X : zX} {σ : zS} : va_D (zAp X) (zWs X σ) := by
  refine ⟨fun i j p q hi hj h => ?_, fun k q hk => ?_⟩
  · obtain ⟨-, rfl⟩ := zWs_of hi
    obtain ⟨-, rfl⟩ := zWs_of hj
    exact Nat.add_left_cancel h
  · obtain ⟨-, rfl⟩ := zWs_of hk
    exact Nat.le_add_right _ _
theorem zWs_set {X : zX} {n : Nat} {rf rf' : zR} {mm mm' : zM} {k : Nat} {e : va_E} (h : k < n) (he : e = zE X rf' mm' k) (ho : ∀ a, a ≠ k → zE X rf' mm' a = zE X rf mm a) : (zWs X (n, rf, mm)).set k (X.2.1 + k, e) = zWs X (n, rf', mm') := by
  subst he
  have hl : k < (zWs X (n, rf, mm)).length := (List.getElem?_eq_some_iff.mp (zWs_get (σ := (n, rf, mm)) h)).1
  apply List.ext_getElem?
  intro i
  by_cases e : i = k
  · subst e
    rw [List.getElem?_set_self hl]
    exact (zWs_get (σ := (n, rf', mm')) h).symm
  · rw [List.getElem?_set_ne (Ne.symm e)]
    by_cases hi : i < n
    · rw [zWs_get (σ := (n, rf, mm)) hi, zWs_get (σ := (n, rf', mm')) hi]
      show some (_, zE X rf mm i) = some (_, zE X rf' mm' i)
      rw [ho i e]
    · rw [zWs_none (σ := (n, rf, mm)) (Nat.not_lt.mp hi), zWs_none (σ := (n, rf', mm')) (Nat.not_lt.mp hi)]
theorem zE_obj {X : zX} {rf : zR} {mm : zM} {k ci : Nat} (h : (zK k).1 = ci) (hc : ci < 10) : zE X rf mm k = .inr (ci, zFs X rf mm ci k) := by
  subst h
  unfold zE
  rw [if_pos hc]
theorem zE_int {X : zX} {rf : zR} {mm : zM} {k n : Nat} (h : zK k = (10, n)) : zE X rf mm k = .inl (X.2.2.2.1, n, .inl (mm k)) := by
  unfold zE
  rw [h, if_neg (show ¬ (10 : Nat) < 10 by decide), if_pos rfl]
theorem zE_bool {X : zX} {rf : zR} {mm : zM} {k n : Nat} (h : zK k = (11, n)) : zE X rf mm k = .inl (X.2.2.2.2.2, n, .inl (mm k)) := by
  unfold zE
  rw [h, if_neg (show ¬ (11 : Nat) < 10 by decide), if_neg (show ¬ (11 : Nat) = 10 by decide), if_pos rfl]
theorem zE_out {X : zX} {rf : zR} {mm : zM} {k n : Nat} (h : zK k = (12, n)) : zE X rf mm k = .inl (X.2.2.2.2.1, n, .inr (.inr (.inr (.inr (fun i => (rf k i).map (fun t => X.2.1 + t)))))) := by
  unfold zE
  rw [h, if_neg (show ¬ (12 : Nat) < 10 by decide), if_neg (show ¬ (12 : Nat) = 10 by decide), if_neg (show ¬ (12 : Nat) = 11 by decide)]
theorem zE_cong {X : zX} {rf rf' : zR} {mm mm' : zM} {a : Nat} (h1 : rf' a = rf a) (h2 : mm' a = mm a) : zE X rf' mm' a = zE X rf mm a := by
  unfold zE zFs
  rw [h1, h2]
theorem zFs_len {X : zX} {rf : zR} {mm : zM} {c k : Nat} : (zFs X rf mm c k).length = zN c := by simp [zFs]
theorem zFs_int {X : zX} {rf : zR} {mm : zM} {c k j : Nat} (hj : j < zN c) (h : zIR c j = false) : (zFs X rf mm c k)[j]? = some (.int (mm k j)) := by
  simp [zFs, hj, h]
theorem zFs_ref {X : zX} {rf : zR} {mm : zM} {c k j t : Nat} (hj : j < zN c) (h : zIR c j = true) (hr : rf k j = some t) : (zFs X rf mm c k)[j]? = some (.ref (X.2.1 + t)) := by
  simp [zFs, hj, h, hr, va_rf]
/-- the numbers, but v at place j of cell k -/
def zU (mm : zM) (k j : Nat) (v : Int32) : zM := va_up mm k (upd (mm k) j v)
/-- the references, but t at place j of cell k -/
def zUr (rf : zR) (k j t : Nat) : zR := va_up rf k (va_up (rf k) j (some t))
theorem zU_ne {mm : zM} {k j a : Nat} {v : Int32} (h : a ≠ k) : zU mm k j v a = mm a := if_neg h
theorem zU_at (mm : zM) (k j : Nat) (v : Int32) : zU mm k j v k = upd (mm k) j v := if_pos rfl
theorem zU_same (mm : zM) (k j : Nat) (v : Int32) : zU mm k j v k j = v := by rw [zU_at]; exact if_pos rfl
theorem zU_off {mm : zM} {k j a i : Nat} {v : Int32} (h : ¬ (a = k ∧ i = j)) : zU mm k j v a i = mm a i := by
  by_cases e : a = k
  · subst e
    rw [zU_at]
    exact if_neg (fun q => h ⟨rfl, q⟩)
  · rw [zU_ne e]
theorem zUr_ne {rf : zR} {k j t a : Nat} (h : a ≠ k) : zUr rf k j t a = rf a := if_neg h
theorem zFs_set {X : zX} {rf : zR} {mm : zM} {c k j : Nat} {v : Int32} (h : zIR c j = false) : (zFs X rf mm c k).set j (.int v) = zFs X rf (zU mm k j v) c k := by
  apply List.ext_getElem?
  intro i
  by_cases hi : i < zN c
  · by_cases e : i = j
    · subst e
      rw [List.getElem?_set_self (by rw [zFs_len]; exact hi), zFs_int hi h, zU_same]
    · rw [List.getElem?_set_ne (Ne.symm e)]
      simp only [zFs, List.getElem?_map, List.getElem?_range hi, Option.map_some]
      rw [zU_off (fun q => e q.2)]
  · rw [List.getElem?_eq_none (by rw [List.length_set, zFs_len]; omega), List.getElem?_eq_none (by rw [zFs_len]; omega)]
theorem zFs_setr {X : zX} {rf : zR} {mm : zM} {c k j t : Nat} (h : zIR c j = true) : (zFs X rf mm c k).set j (.ref (X.2.1 + t)) = zFs X (zUr rf k j t) mm c k := by
  apply List.ext_getElem?
  intro i
  by_cases hi : i < zN c
  · by_cases e : i = j
    · subst e
      rw [List.getElem?_set_self (by rw [zFs_len]; exact hi), zFs_ref hi h (by show va_up rf k (va_up (rf k) i (some t)) k i = some t; simp [va_up])]
    · rw [List.getElem?_set_ne (Ne.symm e)]
      simp only [zFs, List.getElem?_map, List.getElem?_range hi, Option.map_some]
      have : zUr rf k j t k i = rf k i := by simp [zUr, va_up, e]
      rw [this]
  · rw [List.getElem?_eq_none (by rw [List.length_set, zFs_len]; omega), List.getElem?_eq_none (by rw [zFs_len]; omega)]
theorem zWX_moved {X : zX} {s t : State} {σ : zS} {H : Heap} (hvm : s.vm.Alike t.vm) (h : zWX X s σ H) : zWX X t σ H := ⟨h.1, h.2.1, h.2.2.1, h.2.2.2.1, h.2.2.2.2.moved hvm⟩
theorem zL_get {X : zX} {ls : Array Slot} {nL i : Nat} {L : List (Option Value)} {v : Value} (h : zL X ls nL L) (hi : L[i]? = some (some v)) : ls[i]? = some (.val (zV X v)) := by
  refine h.2.2 (i, zV X v) (List.mem_filterMap.mpr ⟨i, List.mem_range.mpr ?_, ?_⟩)
  · exact (List.getElem?_eq_some_iff.mp hi).1
  · rw [hi]; rfl
theorem zPairs_mem {X : zX} {L : List (Option Value)} {q : Nat × Value} (h : q ∈ zPairs X L) : ∃ v, L[q.1]? = some (some v) ∧ q.2 = zV X v := by
  obtain ⟨i, -, h1⟩ := List.mem_filterMap.mp h
  cases hL : L[i]? with
  | none => rw [hL] at h1; cases h1
  | some o =>
    cases o with
    | none => rw [hL] at h1; cases h1
    | some v => rw [hL] at h1; cases h1; exact ⟨v, hL, rfl⟩
theorem zPairs_in {X : zX} {L : List (Option Value)} {i : Nat} {v : Value} (h : L[i]? = some (some v)) : (i, zV X v) ∈ zPairs X L := by
  refine List.mem_filterMap.mpr ⟨i, List.mem_range.mpr (List.getElem?_eq_some_iff.mp h).1, ?_⟩
  rw [h]; rfl
theorem zV_cat {X : zX} {v : Value} : (zV X v).category = v.category := by cases v <;> rfl
/-- no long begins just ahead of place i -/
def zNoL (L : List (Option Value)) (i : Nat) : Bool := match i with
  | 0 => true
  | j + 1 => match L[j]? with
    | some (some v) => v.category != 2
    | _ => true
theorem zNoL_of {L : List (Option Value)} {i j : Nat} {v : Value} (h : zNoL L i = true) (hj : L[j]? = some (some v)) (e : j + 1 = i) : v.category ≠ 2 := by
  subst e
  simp only [zNoL, hj] at h
  simpa using h
theorem zL_st1 {X : zX} {ls : Array Slot} {nL i : Nat} {L : List (Option Value)} {v : Value} (hn : zNoL L i = true) (h : lv_has ls nL ((i, zV X v) :: (zPairs X L).filter (fun q => !(q.1 == i) && !(q.1 + 1 == i && q.2.category == 2)))) : zL X ls nL (L.set i (some v)) := by
  refine ⟨h.1, h.2.1, fun q hq => ?_⟩
  obtain ⟨w, h1, h2⟩ := zPairs_mem hq
  by_cases e : q.1 = i
  · have hw : w = v := by
      rw [e] at h1
      have hlt : i < L.length := by have := (List.getElem?_eq_some_iff.mp h1).1; rwa [List.length_set] at this
      rw [List.getElem?_set_self hlt] at h1
      exact (Option.some.inj (Option.some.inj h1)).symm
    subst hw
    have := h.2.2 (i, zV X w) List.mem_cons_self
    rw [h2, e]; exact this
  · rw [List.getElem?_set_ne (fun z => e z.symm)] at h1
    refine h.2.2 q (List.mem_cons_of_mem _ (List.mem_filter.mpr ⟨?_, ?_⟩))
    · have := zPairs_in (X := X) h1
      rw [← h2] at this; exact this
    · have h3 := fun z => zNoL_of hn h1 z
      rw [h2, zV_cat]
      simp only [Bool.and_eq_true, Bool.not_eq_true', beq_eq_false_iff_ne, ne_eq, Bool.and_eq_false_iff]
      refine ⟨e, ?_⟩
      by_cases z : q.1 + 1 = i
      · exact Or.inr (h3 z)
      · exact Or.inl z
theorem zL_st2 {X : zX} {ls : Array Slot} {nL i : Nat} {L : List (Option Value)} {v : Value} (hn : zNoL L i = true) (h : lv_has ls nL ((i, zV X v) :: (zPairs X L).filter (fun q => !(q.1 == i) && (!(q.1 == i + 1) && !(q.1 + 1 == i && q.2.category == 2))))) : zL X ls nL ((L.set i (some v)).set (i + 1) none) := by
  refine ⟨h.1, h.2.1, fun q hq => ?_⟩
  obtain ⟨w, h1, h2⟩ := zPairs_mem hq
  have e1 : q.1 ≠ i + 1 := by
    intro z
    rw [z] at h1
    have hlt := (List.getElem?_eq_some_iff.mp h1).1
    rw [List.length_set] at hlt
    rw [List.getElem?_set_self hlt] at h1
    cases h1
  rw [List.getElem?_set_ne (fun z => e1 z.symm)] at h1
  by_cases e : q.1 = i
  · have hw : w = v := by
      rw [e] at h1
      have hlt : i < L.length := by have := (List.getElem?_eq_some_iff.mp h1).1; rwa [List.length_set] at this
      rw [List.getElem?_set_self hlt] at h1
      exact (Option.some.inj (Option.some.inj h1)).symm
    subst hw
    have := h.2.2 (i, zV X w) List.mem_cons_self
    rw [h2, e]; exact this
  · rw [List.getElem?_set_ne (fun z => e z.symm)] at h1
    refine h.2.2 q (List.mem_cons_of_mem _ (List.mem_filter.mpr ⟨?_, ?_⟩))
    · have := zPairs_in (X := X) h1
      rw [← h2] at this; exact this
    · have h3 := fun z => zNoL_of hn h1 z
      rw [h2, zV_cat]
      simp only [Bool.and_eq_true, Bool.not_eq_true', beq_eq_false_iff_ne, ne_eq, Bool.and_eq_false_iff]
      refine ⟨e, e1, ?_⟩
      by_cases z : q.1 + 1 = i
      · exact Or.inr (h3 z)
      · exact Or.inl z
/-- the places with which a method begins -/
def zArgs : List Value → List (Option Value)
  | [] => []
  | v :: vs => if v.category = 2 then some v :: none :: zArgs vs else some v :: zArgs vs
theorem zArgs_len : ∀ (X : zX) (vs : List Value), (lg_sl (vs.map (zV X))).length = (zArgs vs).length
  | X, [] => rfl
  | X, v :: vs => by
    have ih := zArgs_len X vs
    simp only [lg_sl, List.map_cons, List.flatMap_cons, List.length_append, zArgs, zV_cat] at ih ⊢
    by_cases h : v.category = 2 <;> simp [h, ih] <;> omega
theorem zArgs_in : ∀ (X : zX) (vs : List Value) (o i : Nat) (v : Value), (zArgs vs)[i]? = some (some v) → (o + i, zV X v) ∈ lv_args o (vs.map (zV X))
  | X, [], o, i, v, h => by simp [zArgs] at h
  | X, w :: vs, o, i, v, h => by
    simp only [List.map_cons, lv_args, zV_cat]
    by_cases hc : w.category = 2
    · simp only [zArgs, if_pos hc] at h ⊢
      match i, h with
      | 0, h => simp at h; subst h; exact List.mem_cons_self
      | 1, h => simp at h
      | i + 2, h =>
        have h' : (zArgs vs)[i]? = some (some v) := by simpa using h
        have := zArgs_in X vs (o + 2) i v h'
        exact List.mem_cons_of_mem _ (by rw [show o + (i + 2) = o + 2 + i by omega]; exact this)
    · simp only [zArgs, if_neg hc] at h ⊢
      match i, h with
      | 0, h => simp at h; subst h; exact List.mem_cons_self
      | i + 1, h =>
        have h' : (zArgs vs)[i]? = some (some v) := by simpa using h
        have := zArgs_in X vs (o + 1) i v h'
        exact List.mem_cons_of_mem _ (by rw [show o + (i + 1) = o + 1 + i by omega]; exact this)
theorem zL_entry {X : zX} {av : List Value} {nL : Nat} (h : (zArgs av).length ≤ nL) : zL X ((lg_sl (av.map (zV X)) ++ List.replicate (nL - (lg_sl (av.map (zV X))).length) Slot.unset).toArray) nL (zArgs av ++ List.replicate (nL - (zArgs av).length) none) := by
  have h0 := lv_entry (av.map (zV X)) (n := nL) (by rw [zArgs_len]; exact h)
  refine ⟨h0.1, h0.2.1, fun q hq => ?_⟩
  obtain ⟨v, h1, h2⟩ := zPairs_mem hq
  rcases Nat.lt_or_ge q.1 (zArgs av).length with hl | hl
  · rw [List.getElem?_append_left hl] at h1
    have := zArgs_in X av 0 q.1 v h1
    rw [Nat.zero_add, ← h2] at this
    exact h0.2.2 q this
  · rw [List.getElem?_append_right hl, List.getElem?_replicate] at h1
    split at h1 <;> cases h1
theorem zSum_mono : ∀ {a b : Nat}, a ≤ b → zSum a ≤ zSum b := by
  intro a b h
  induction h with
  | refl => exact Nat.le_refl _
  | step _ ih => exact Nat.le_trans ih (Nat.le_add_right _ _)
