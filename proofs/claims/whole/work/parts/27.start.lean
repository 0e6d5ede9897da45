/-! the claim: the law from its entry -/
theorem zT_tbl {w : Cond} (h : w ∈ zT) : w ∈ lw_tbl := (List.mem_filter.mp h).1
theorem zKn_of {own : String} {idx ci : Nat} {s : State} {args : Array Value} (hts : ∀ w ∈ zT, w.before args s = true) (h : zNc own idx ci) : ∃ y : ClassId × (Nat → Nat), ∀ q : vw_C, vwCl[ci]? = some q → u_Kn s q.1 q.2.1 q.2.2 y.1 y.2 := by
  obtain ⟨C, T, ty, ⟨c1, c2, c3, c4, c5, c6, c7⟩, hl, hi, hini⟩ := h
  obtain ⟨cC, iS, hk⟩ := u_known hts c3 (hts _ hi)
  refine ⟨(cC, iS), fun q hq => ?_⟩
  rw [c1] at hq
  cases hq
  exact hk
theorem zKn_all {s : State} {args : Array Value} (hts : ∀ w ∈ zT, w.before args s = true) : ∃ f : Nat → ClassId × (Nat → Nat), ∀ (k : Nat) (q : vw_C), vwCl[k]? = some q → u_Kn s q.1 q.2.1 q.2.2 (f k).1 (f k).2 := by
  have h : ∀ k : Nat, ∃ y : ClassId × (Nat → Nat), ∀ q : vw_C, vwCl[k]? = some q → u_Kn s q.1 q.2.1 q.2.2 y.1 y.2 := fun k => by
    rcases (by omega : k = 0 ∨ k = 1 ∨ k = 2 ∨ k = 3 ∨ k = 4 ∨ k = 5 ∨ k = 6 ∨ k = 7 ∨ k = 8 ∨ k = 9 ∨ 10 ≤ k) with rfl | rfl | rfl | rfl | rfl | rfl | rfl | rfl | rfl | rfl | hk
    · exact zKn_of hts zNc_X8_32
    · exact zKn_of hts zNc_X8_9
    · exact zKn_of hts zNc_X8_62
    · exact zKn_of hts zNc_X8_16
    · exact zKn_of hts zNc_X8_39
    · exact zKn_of hts zNc_X8_48
    · exact zKn_of hts zNc_X8_55
    · exact zKn_of hts zNc_X8_23
    · exact zKn_of hts zNc_L_7
    · exact zKn_of hts zNc_L_10
    · exact ⟨(0, fun _ => 0), fun q hq => by rw [List.getElem?_eq_none (by show 10 ≤ k; exact hk)] at hq; cases hq⟩
  exact ⟨fun k => (h k).choose, fun k q hq => (h k).choose_spec q hq⟩
theorem zNest_tbl : ∀ w ∈ zNest, w ∈ lw_tbl := by
  intro w hw
  simp only [zNest, List.mem_cons, List.not_mem_nil, or_false] at hw
  rcases hw with rfl | rfl | rfl | rfl | rfl | rfl
  · exact List.mem_of_getElem? (i := 77) (by decide +kernel)
  · exact List.mem_of_getElem? (i := 168) (by decide +kernel)
  · exact List.mem_of_getElem? (i := 245) (by decide +kernel)
  · exact List.mem_of_getElem? (i := 274) (by decide +kernel)
  · exact List.mem_of_getElem? (i := 290) (by decide +kernel)
  · exact List.mem_of_getElem? (i := 582) (by decide +kernel)
theorem zNest_tables : ∀ w ∈ zNest, w.onTables = true := by
  intro w hw
  simp only [zNest, List.mem_cons, List.not_mem_nil, or_false] at hw
  rcases hw with rfl | rfl | rfl | rfl | rfl | rfl <;> rfl
theorem zAO_tbl : (Cond.arrayOver (.array .int)) ∈ lw_tbl := List.mem_of_getElem? (i := 98) (by decide +kernel)
/-- the numbers at the law's entry: the script alone -/
def zM0 (xs : Nat → Int32) (L : Nat) : zM := fun k j => if k = 154 then xs j else if k = 155 then nI L else 0
theorem zSum154 : zSum 154 ≤ 7302250 := by decide +kernel
theorem zss154 : zss mL_law mL_law.2.2.2.2.2 ≤ room_1.slots := by
  have h := zSum154
  unfold zss
  rw [if_neg (by decide)]
  exact Nat.le_trans (Nat.sub_le _ _) h
