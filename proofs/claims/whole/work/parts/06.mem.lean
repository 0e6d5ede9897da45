/-! cells: fields and arrays -/
def zCl (ci : Nat) (C : String) (T : u_T) (ty : Nat → FieldType) : Prop := vwCl[ci]? = some (C, T, zN ci) ∧ ci < 10 ∧ (∀ w ∈ u_ws C T (zN ci), w ∈ zT) ∧ (∀ k, k < zN ci → parseFieldDescriptor (T k).2.2.1 = some (ty k)) ∧ (∀ a, a < zN ci → ∀ b, b < zN ci → a ≠ b → (T a).2.1 ≠ (T b).2.1) ∧ (∀ k, k < zN ci → (T k).1 = C) ∧ (∀ k, k < zN ci → defaultValue (ty k) = if zIR ci k then .null else .int 0)
/-- entry idx of own's pool is field j of the objects of kind ci -/
def zF (own : String) (idx ci j : Nat) (fin : Bool) (ty0 : FieldType) : Prop := ∃ (C : String) (T : u_T) (ty : Nat → FieldType), zCl ci C T ty ∧ j < zN ci ∧ Cond.fieldLink own idx C (T j).2.1 (T j).2.2.1 ∈ zT ∧ (T j).2.2.2 = fin ∧ ty j = ty0
section ZME
variable {d : Nat} {M : zMt} {pc : Nat} {L : List (Option Value)} {st : List Value} {σ : zS} {K : List Value → zS → Prop}
theorem wx_getI {idx ci j k : Nat} {fin : Bool} {ty0 : FieldType} (hd : decode M.2.1 pc = .ok (.getfield idx, 3)) (hf : zF M.1.cls idx ci j fin ty0) (hk : (zK k).1 = ci) (hj : zIR ci j = false) (hkn : k < σ.1) (kk : wx d M (pc + 3) L (.int (σ.2.2 k j) :: st) σ K) : wx d M pc L (.ref k :: st) σ K := by
  intro X p l e R s m args below meth c Q nn hC hn hr H locs ls hW hS hl
  obtain ⟨hx, hb, hml, hown, hts, hret, hlk, hK, hNw, hnm, hdR, hlR, hcR, hsR⟩ := id hC
  obtain ⟨C, T, ty, ⟨c1, c2, c3, c4, c5, c6, c7⟩, hjn, hlink, hfi, hty⟩ := hf
  have he : (zWs X σ)[k]? = some (X.2.1 + k, .inr (ci, zFs X σ.2.1 σ.2.2 ci k)) := by rw [zWs_get hkn, zE_obj hk c2]
  exact va_get (D := X.2.2.1) (ci := ci) (v := .int (σ.2.2 k j)) (C := C) (T := T) (N := zN ci) hx hb hts c3 hown hK hW.2.2.2.1 k he c1 j hjn (hts _ hlink) (fun x h => by rw [c6 j hjn] at h; exact h) (zFs_int hjn hj) hd (kk X p l e R s m args below meth c Q nn hC hn hr H locs ls hW hS hl)
theorem wx_getR {idx ci j k t : Nat} {fin : Bool} {ty0 : FieldType} (hd : decode M.2.1 pc = .ok (.getfield idx, 3)) (hf : zF M.1.cls idx ci j fin ty0) (hk : (zK k).1 = ci) (hj : zIR ci j = true) (hkn : k < σ.1) (ht : σ.2.1 k j = some t) (kk : wx d M (pc + 3) L (.ref t :: st) σ K) : wx d M pc L (.ref k :: st) σ K := by
  intro X p l e R s m args below meth c Q nn hC hn hr H locs ls hW hS hl
  obtain ⟨hx, hb, hml, hown, hts, hret, hlk, hK, hNw, hnm, hdR, hlR, hcR, hsR⟩ := id hC
  obtain ⟨C, T, ty, ⟨c1, c2, c3, c4, c5, c6, c7⟩, hjn, hlink, hfi, hty⟩ := hf
  have he : (zWs X σ)[k]? = some (X.2.1 + k, .inr (ci, zFs X σ.2.1 σ.2.2 ci k)) := by rw [zWs_get hkn, zE_obj hk c2]
  exact va_get (D := X.2.2.1) (ci := ci) (v := .ref (X.2.1 + t)) (C := C) (T := T) (N := zN ci) hx hb hts c3 hown hK hW.2.2.2.1 k he c1 j hjn (hts _ hlink) (fun x h => by rw [c6 j hjn] at h; exact h) (zFs_ref hjn hj ht) hd (kk X p l e R s m args below meth c Q nn hC hn hr H locs ls hW hS hl)
theorem zWX_put {X : zX} {s : State} {σ : zS} {H H1 : Heap} {rf' : zR} {mm' : zM} {k : Nat} {e : va_E} (hW : zWX X s σ H) (hz : H1.size = H.size) (hX : H1[X.1]? = H[X.1]?) (hk : k < σ.1) (he : e = zE X rf' mm' k) (h1 : ∀ a, a ≠ k → rf' a = σ.2.1 a) (h2 : ∀ a, a ≠ k → mm' a = σ.2.2 a)
    (hP : va_P X.2.2.1 vwCl ((zWs X σ).set k (X.2.1 + k, e)) H1) : zWX X s (σ.1, rf', mm') H1 := by
  obtain ⟨n, rf, mm⟩ := σ
  have hn : n ≤ 154 := hW.2.1
  have h154 : 154 ≠ k := fun q => by have : k < n := hk; omega
  refine ⟨by rw [hz]; exact hW.1, hW.2.1, hW.2.2.1, ?_, ?_⟩
  · rw [zWs_set (rf' := rf') (mm' := mm') hk he (fun a ha => zE_cong (h1 a ha) (h2 a ha))] at hP
    exact hP
  · show va_X X.1 (mm' 155 0).toNatClampNeg (mm' 154) s H1
    rw [h2 154 h154, h2 155 (fun q => by have : k < n := hk; omega)]
    exact hW.2.2.2.2.kept hX
theorem zNX {X : zX} {s : State} {σ : zS} {H : Heap} {k : Nat} (hW : zWX X s σ H) : X.1 ≠ X.2.1 + k := by have := hW.2.2.1; omega
/-- a put changes nothing that isn't at its own address -/
theorem zOff {A : Nat → Prop} {H0 H H1 : Heap} {locs locs1 : List Loc} : va_S A H0 H1 locs1 → H0.size ≤ H1.size := fun h => h.1
theorem wx_putI {idx ci j k : Nat} {ty0 : FieldType} {v : Int32} (hd : decode M.2.1 pc = .ok (.putfield idx, 3)) (hf : zF M.1.cls idx ci j false ty0) (hk : (zK k).1 = ci) (hj : zIR ci j = false) (hkn : k < σ.1) (hnar : narrow ty0 (.int v) = .int v) (hfit : fits ty0 (.int v) = true) (kk : wx d M (pc + 3) L st (σ.1, σ.2.1, zU σ.2.2 k j v) K) : wx d M pc L (.int v :: .ref k :: st) σ K := by
  intro X p l e R s m args below meth c Q nn hC hn hr H locs ls hW hS hl
  obtain ⟨hx, hb, hml, hown, hts, hret, hlk, hK, hNw, hnm, hdR, hlR, hcR, hsR⟩ := id hC
  obtain ⟨C, T, ty, ⟨c1, c2, c3, c4, c5, c6, c7⟩, hjn, hlink, hfi, hty⟩ := hf
  have he : (zWs X σ)[k]? = some (X.2.1 + k, .inr (ci, zFs X σ.2.1 σ.2.2 ci k)) := by rw [zWs_get hkn, zE_obj hk c2]
  have hap := va_apart (own := M.1.cls) hts c3 ty c4 c5 hK c1
  obtain ⟨r, h1, cell, q1, q2, q3, q4⟩ := hW.2.2.2.1 k _ he
  have hrr : r = (C, T, zN ci) := Option.some.inj (h1.symm.trans c1)
  subst hrr
  obtain ⟨hSl, hfc, kC, hkC, hkind⟩ := hK.1 ci _ c1
  obtain ⟨cf, kf, fi, f, hi, hsl⟩ := hSl j hjn
  have hlay := hts _ (c3 _ (u_in_lay hjn))
  unfold u_lay at hlay
  rw [if_neg (by rw [hfi]; decide)] at hlay
  have hst := (u_facts hfc hkC (u_lays hts c3 hjn) hi).1
  have h6 := u_store hfc hkC hkind hlay hi (c4 j hjn) (by rw [hty]; exact hnar) (by rw [hty]; exact hfit)
  refine W.putK hx hb (f := f) ⟨hown, hts _ hlink, ⟨_, _, _, by rw [← c6 j hjn]; exact hi⟩, hst⟩ (by rw [q2]; exact h6) q1 q3 (by rw [hsl]; exact k2_hasslot (q4 j hjn)) rfl rfl hd fun H' e1 e2 e3 => ?_
  rw [hsl] at e1 ⊢
  have hP' := va_P.set (e := .inr (ci, (zFs X σ.2.1 σ.2.2 ci k).set j (.int v))) hW.2.2.2.1 zWs_D he ⟨_, c1, t_OB.to (V := updV (vp_V (zFs X σ.2.1 σ.2.2 ci k)) j (.int v)) ⟨_, e1, q2, q3, t_set q4 hap hjn (.int v)⟩ (fun i _ => vp_updV_set (by rw [zFs_len]; exact hjn) (.int v) i)⟩ e3
  have hW' := zWX_put (rf' := σ.2.1) (mm' := zU σ.2.2 k j v) hW e2 (e3 _ (zNX hW)) hkn (by rw [zE_obj hk c2, zFs_set hj]) (fun _ _ => rfl) (fun a ha => zU_ne ha) hP'
  exact kk X p l e R s m args below meth c Q nn hC hn hr H' _ ls hW' (hS.put e2 e3 (Nat.le_add_right _ _)) hl
theorem wx_putR {idx ci j k t : Nat} {ty0 : FieldType} (hd : decode M.2.1 pc = .ok (.putfield idx, 3)) (hf : zF M.1.cls idx ci j true ty0) (hk : (zK k).1 = ci) (hj : zIR ci j = true) (hkn : k < σ.1) (hin : M.1.name = "<init>") (hcl : vwCl[ci]?.map (fun q => q.1) = some M.1.cls) (hnar : ∀ q : Nat, narrow ty0 (.ref q) = .ref q) (hfit : ∀ q : Nat, fits ty0 (.ref q) = true) (kk : wx d M (pc + 3) L st (σ.1, zUr σ.2.1 k j t, σ.2.2) K) : wx d M pc L (.ref t :: .ref k :: st) σ K := by
  intro X p l e R s m args below meth c Q nn hC hn hr H locs ls hW hS hl
  obtain ⟨hx, hb, hml, hown, hts, hret, hlk, hK, hNw, hnm, hdR, hlR, hcR, hsR⟩ := id hC
  obtain ⟨C, T, ty, ⟨c1, c2, c3, c4, c5, c6, c7⟩, hjn, hlink, hfi, hty⟩ := hf
  have hCo : C = M.1.cls := by rw [c1] at hcl; exact Option.some.inj hcl
  have he : (zWs X σ)[k]? = some (X.2.1 + k, .inr (ci, zFs X σ.2.1 σ.2.2 ci k)) := by rw [zWs_get hkn, zE_obj hk c2]
  have hap := va_apart (own := M.1.cls) hts c3 ty c4 c5 hK c1
  obtain ⟨r, h1, cell, q1, q2, q3, q4⟩ := hW.2.2.2.1 k _ he
  have hrr : r = (C, T, zN ci) := Option.some.inj (h1.symm.trans c1)
  subst hrr
  obtain ⟨hSl, hfc, kC, hkC, hkind⟩ := hK.1 ci _ c1
  obtain ⟨cf, kf, fi, f, hi, hsl⟩ := hSl j hjn
  have hlay := hts _ (c3 _ (u_in_lay hjn))
  unfold u_lay at hlay
  rw [if_pos hfi] at hlay
  have hst := (u_facts hfc hkC (u_lays hts c3 hjn) hi).1
  have hcf : m.cls = cf := by
    obtain ⟨_, _, c', _, _, _, -, -, hf', -, -, -, hown2, -⟩ := Cond.laysFinal_spec hlay
    have e1 : c' = cf := by have := hi.symm.trans hf'; simp at this; exact this.1.symm
    rw [c6 j hjn, hCo] at hown2
    rw [← e1]; exact Option.some.inj (hown.symm.trans hown2)
  have h6 := u_fits hfc hkC hkind (Or.inr hlay) hi (c4 j hjn) (v := .ref (X.2.1 + t)) (by rw [hty]; exact hnar _) (by rw [hty]; exact hfit _)
  refine W.putFinK hx hb hown (hts _ hlink) (by rw [← c6 j hjn]; exact hi) hst hcf ((hnm hin).trans hin) (by rw [q2]; exact h6) q1 q3 (by rw [hsl]; exact k2_hasslot (q4 j hjn)) rfl rfl hd fun H' e1 e2 e3 => ?_
  rw [hsl] at e1 ⊢
  have hP' := va_P.set (e := .inr (ci, (zFs X σ.2.1 σ.2.2 ci k).set j (.ref (X.2.1 + t)))) hW.2.2.2.1 zWs_D he ⟨_, c1, t_OB.to (V := updV (vp_V (zFs X σ.2.1 σ.2.2 ci k)) j (.ref (X.2.1 + t))) ⟨_, e1, q2, q3, t_set q4 hap hjn (.ref (X.2.1 + t))⟩ (fun i _ => vp_updV_set (by rw [zFs_len]; exact hjn) (.ref (X.2.1 + t)) i)⟩ e3
  have hW' := zWX_put (rf' := zUr σ.2.1 k j t) (mm' := σ.2.2) hW e2 (e3 _ (zNX hW)) hkn (by rw [zE_obj hk c2, zFs_setr hj]) (fun a ha => zUr_ne ha) (fun _ _ => rfl) hP'
  exact kk X p l e R s m args below meth c Q nn hC hn hr H' _ ls hW' (hS.put e2 e3 (Nat.le_add_right _ _)) hl
theorem wx_iald {k n : Nat} {i : Int32} (hd : decode M.2.1 pc = .ok (.iaload, 1)) (hk : zK k = (10, n)) (hkn : k < σ.1) (hin : vp_in i n) (kk : wx d M (pc + 1) L (.int (σ.2.2 k i.toNatClampNeg) :: st) σ K) : wx d M pc L (.int i :: .ref k :: st) σ K := by
  intro X p l e R s m args below meth c Q nn hC hn hr H locs ls hW hS hl
  obtain ⟨hx, hb, hml, hown, hts, hret, hlk, hK, hNw, hnm, hdR, hlR, hcR, hsR⟩ := id hC
  have he : (zWs X σ)[k]? = some (X.2.1 + k, .inl (X.2.2.2.1, n, .inl (σ.2.2 k))) := by rw [zWs_get hkn, zE_int hk]
  exact va_iald hx hb hK hW.2.2.2.1 k 0 he rfl hin hd (kk X p l e R s m args below meth c Q nn hC hn hr H locs ls hW hS hl)
theorem wx_zald {k n : Nat} {i : Int32} (hd : decode M.2.1 pc = .ok (.baload, 1)) (hk : zK k = (11, n)) (hkn : k < σ.1) (hin : vp_in i n) (kk : wx d M (pc + 1) L (.int (σ.2.2 k i.toNatClampNeg) :: st) σ K) : wx d M pc L (.int i :: .ref k :: st) σ K := by
  intro X p l e R s m args below meth c Q nn hC hn hr H locs ls hW hS hl
  obtain ⟨hx, hb, hml, hown, hts, hret, hlk, hK, hNw, hnm, hdR, hlR, hcR, hsR⟩ := id hC
  have he : (zWs X σ)[k]? = some (X.2.1 + k, .inl (X.2.2.2.2.2, n, .inl (σ.2.2 k))) := by rw [zWs_get hkn, zE_bool hk]
  exact va_zald hx hb hK hW.2.2.2.1 k 2 he rfl hin hd (kk X p l e R s m args below meth c Q nn hC hn hr H locs ls hW hS hl)
theorem wx_aald {k n t : Nat} {i : Int32} (hd : decode M.2.1 pc = .ok (.aaload, 1)) (hk : zK k = (12, n)) (hkn : k < σ.1) (hin : vp_in i n) (ht : σ.2.1 k i.toNatClampNeg = some t) (kk : wx d M (pc + 1) L (.ref t :: st) σ K) : wx d M pc L (.int i :: .ref k :: st) σ K := by
  intro X p l e R s m args below meth c Q nn hC hn hr H locs ls hW hS hl
  obtain ⟨hx, hb, hml, hown, hts, hret, hlk, hK, hNw, hnm, hdR, hlR, hcR, hsR⟩ := id hC
  have he : (zWs X σ)[k]? = some (X.2.1 + k, .inl (X.2.2.2.2.1, n, .inr (.inr (.inr (.inr (fun i => (σ.2.1 k i).map (fun t => X.2.1 + t))))))) := by rw [zWs_get hkn, zE_out hk]
  have hlt : i.toNatClampNeg < n := Nat.not_le.mp fun q => hin (Or.inr q)
  exact W.aald (v := .ref (X.2.1 + t)) (ty := .array .int) hx hb (hW.2.2.2.1 k _ he) ((hK.2 1 (X.2.2.2.2.1, .array .int) rfl).1 n (fun j => va_rf ((σ.2.1 k j).map (fun t => X.2.1 + t)))) rfl (fun q => by cases q) (by show ¬ (i < 0 ∨ (arrV _ _ _).slots.size ≤ _); rw [arrV_size]; exact hin) (by show (arrV _ _ _).slots[_]? = _; rw [arrV_read _ _ hlt]; show some (va_rf ((σ.2.1 k i.toNatClampNeg).map (fun t => X.2.1 + t))) = _; rw [ht]; rfl) rfl rfl hd (kk X p l e R s m args below meth c Q nn hC hn hr H locs ls hW hS hl)
theorem wx_alen {k n : Nat} (hd : decode M.2.1 pc = .ok (.arraylength, 1)) (hk : zK k = (10, n)) (hkn : k < σ.1) (kk : wx d M (pc + 1) L (.int (Int32.ofNat n) :: st) σ K) : wx d M pc L (.ref k :: st) σ K := by
  intro X p l e R s m args below meth c Q nn hC hn hr H locs ls hW hS hl
  obtain ⟨hx, hb, hml, hown, hts, hret, hlk, hK, hNw, hnm, hdR, hlR, hcR, hsR⟩ := id hC
  have he : (zWs X σ)[k]? = some (X.2.1 + k, .inl (X.2.2.2.1, n, .inl (σ.2.2 k))) := by rw [zWs_get hkn, zE_int hk]
  exact va_alen hx hb hK hW.2.2.2.1 k 0 he rfl rfl hd (kk X p l e R s m args below meth c Q nn hC hn hr H locs ls hW hS hl)
theorem wx_alenA {k n : Nat} (hd : decode M.2.1 pc = .ok (.arraylength, 1)) (hk : zK k = (12, n)) (hkn : k < σ.1) (kk : wx d M (pc + 1) L (.int (Int32.ofNat n) :: st) σ K) : wx d M pc L (.ref k :: st) σ K := by
  intro X p l e R s m args below meth c Q nn hC hn hr H locs ls hW hS hl
  obtain ⟨hx, hb, hml, hown, hts, hret, hlk, hK, hNw, hnm, hdR, hlR, hcR, hsR⟩ := id hC
  have he : (zWs X σ)[k]? = some (X.2.1 + k, .inl (X.2.2.2.2.1, n, .inr (.inr (.inr (.inr (fun i => (σ.2.1 k i).map (fun t => X.2.1 + t))))))) := by rw [zWs_get hkn, zE_out hk]
  exact va_alen hx hb hK hW.2.2.2.1 k 1 he rfl rfl hd (kk X p l e R s m args below meth c Q nn hC hn hr H locs ls hW hS hl)
theorem wx_slen (hd : decode M.2.1 pc = .ok (.arraylength, 1)) (kk : wx d M (pc + 1) L (.int (Int32.ofNat (σ.2.2 155 0).toNatClampNeg) :: st) σ K) : wx d M pc L (.null :: st) σ K := by
  intro X p l e R s m args below meth c Q nn hC hn hr H locs ls hW hS hl
  obtain ⟨hx, hb, hml, hown, hts, hret, hlk, hK, hNw, hnm, hdR, hlR, hcR, hsR⟩ := id hC
  obtain ⟨scr, h1, h2, h3, h4, h5⟩ := hW.2.2.2.2
  exact W.alen (n := Int32.ofNat (σ.2.2 155 0).toNatClampNeg) hx hb h1 h2 (by rw [h4] <;> rfl) rfl rfl hd (kk X p l e R s m args below meth c Q nn hC hn hr H locs ls hW hS hl)
theorem wx_sld {i : Int32} (hd : decode M.2.1 pc = .ok (.iaload, 1)) (hin : vp_in i (σ.2.2 155 0).toNatClampNeg) (kk : wx d M (pc + 1) L (.int (σ.2.2 154 i.toNatClampNeg) :: st) σ K) : wx d M pc L (.int i :: .null :: st) σ K := by
  intro X p l e R s m args below meth c Q nn hC hn hr H locs ls hW hS hl
  obtain ⟨hx, hb, hml, hown, hts, hret, hlk, hK, hNw, hnm, hdR, hlR, hcR, hsR⟩ := id hC
  obtain ⟨scr, h1, h2, h3, h4, h5⟩ := hW.2.2.2.2
  have hlt : i.toNatClampNeg < (σ.2.2 155 0).toNatClampNeg := Nat.not_le.mp fun q => hin (Or.inr q)
  exact W.iald (v := .int (σ.2.2 154 i.toNatClampNeg)) hx hb h1 h2 h3 (by rw [h4]; exact hin) (h5 _ hlt) rfl rfl hd (kk X p l e R s m args below meth c Q nn hC hn hr H locs ls hW hS hl)
theorem wx_iast {k n : Nat} {i v : Int32} (hd : decode M.2.1 pc = .ok (.iastore, 1)) (hk : zK k = (10, n)) (hkn : k < σ.1) (hin : vp_in i n) (kk : wx d M (pc + 1) L st (σ.1, σ.2.1, zU σ.2.2 k i.toNatClampNeg v) K) : wx d M pc L (.int v :: .int i :: .ref k :: st) σ K := by
  intro X p l e R s m args below meth c Q nn hC hn hr H locs ls hW hS hl
  obtain ⟨hx, hb, hml, hown, hts, hret, hlk, hK, hNw, hnm, hdR, hlR, hcR, hsR⟩ := id hC
  have he : (zWs X σ)[k]? = some (X.2.1 + k, .inl (X.2.2.2.1, n, .inl (σ.2.2 k))) := by rw [zWs_get hkn, zE_int hk]
  refine W.iast hx hb (hW.2.2.2.1 k _ he) ((hK.2 0 (X.2.2.2.1, .int) rfl).1 n (fun j => .int (σ.2.2 k j))) (fun q => by cases q) (by show ¬ (i < 0 ∨ (arrV _ _ _).slots.size ≤ _); rw [arrV_size]; exact hin) rfl rfl hd fun H1 e1 z oq => ?_
  have hat : va_at X.2.2.1 vwCl (X.2.1 + k, .inl (X.2.2.2.1, n, .inl (upd (σ.2.2 k) i.toNatClampNeg v))) H1 := by
    show H1[X.2.1 + k]? = some (vp_cell _ _)
    rw [e1]
    rw [vp_cell_i, vp_cell_i, arrV_store]
    congr 2
    funext q
    by_cases hq : q = i.toNatClampNeg
    · subst hq
      simp [updV, upd]
    · simp [updV, upd, hq]
  have hP' := va_P.set hW.2.2.2.1 zWs_D he hat oq
  have hW' := zWX_put (rf' := σ.2.1) (mm' := zU σ.2.2 k i.toNatClampNeg v) hW z (oq _ (zNX hW)) hkn (by rw [zE_int hk, zU_at]) (fun _ _ => rfl) (fun a ha => zU_ne ha) hP'
  exact kk X p l e R s m args below meth c Q nn hC hn hr H1 _ ls hW' (hS.put z oq (Nat.le_add_right _ _)) hl
theorem wx_zast {k n : Nat} {i v : Int32} (hd : decode M.2.1 pc = .ok (.bastore, 1)) (hk : zK k = (11, n)) (hkn : k < σ.1) (hin : vp_in i n) (hv : vp_nar .boolean v = v) (kk : wx d M (pc + 1) L st (σ.1, σ.2.1, zU σ.2.2 k i.toNatClampNeg v) K) : wx d M pc L (.int v :: .int i :: .ref k :: st) σ K := by
  intro X p l e R s m args below meth c Q nn hC hn hr H locs ls hW hS hl
  obtain ⟨hx, hb, hml, hown, hts, hret, hlk, hK, hNw, hnm, hdR, hlR, hcR, hsR⟩ := id hC
  have he : (zWs X σ)[k]? = some (X.2.1 + k, .inl (X.2.2.2.2.2, n, .inl (σ.2.2 k))) := by rw [zWs_get hkn, zE_bool hk]
  refine W.zast hx hb (hW.2.2.2.1 k _ he) ((hK.2 2 (X.2.2.2.2.2, .boolean) rfl).1 n (fun j => .int (σ.2.2 k j))) (fun q => by cases q) (by show ¬ (i < 0 ∨ (arrV _ _ _).slots.size ≤ _); rw [arrV_size]; exact hin) rfl rfl hd fun H1 e1 z oq => ?_
  have hat : va_at X.2.2.1 vwCl (X.2.1 + k, .inl (X.2.2.2.2.2, n, .inl (upd (σ.2.2 k) i.toNatClampNeg (vp_nar .boolean v)))) H1 := by
    show H1[X.2.1 + k]? = some (vp_cell _ _)
    rw [e1]
    rw [vp_cell_i, vp_cell_i, arrV_store]
    congr 2
    funext q
    by_cases hq : q = i.toNatClampNeg
    · subst hq
      simp [updV, upd]
      rfl
    · simp [updV, upd, hq]
  rw [hv] at hat
  have hP' := va_P.set hW.2.2.2.1 zWs_D he hat oq
  have hW' := zWX_put (rf' := σ.2.1) (mm' := zU σ.2.2 k i.toNatClampNeg v) hW z (oq _ (zNX hW)) hkn (by rw [zE_bool hk, zU_at]) (fun _ _ => rfl) (fun a ha => zU_ne ha) hP'
  exact kk X p l e R s m args below meth c Q nn hC hn hr H1 _ ls hW' (hS.put z oq (Nat.le_add_right _ _)) hl
theorem wx_iret {v : Int32} {ty : FieldType} (hd : decode M.2.1 pc = .ok (.ireturn, 1)) (hty : M.2.2.2.1 = some ty) (hnar : narrow ty (.int v) = .int v) (hz : M.2.2.2.2.2 = 0 ∨ σ.1 = M.2.2.2.2.2) (hK0 : K [.int v] σ) : wx d M pc L [.int v] σ K := by
  intro X p l e R s m args below meth c Q nn hC hn hr H locs ls hW hS hl
  refine hr [.int v] σ H locs pc ls hK0 ?_ hW hS ⟨hd, ty, hty, hnar⟩
  unfold zEnd
  by_cases h : M.2.2.2.2.2 = 0
  · rw [if_pos h]; exact hn h
  · rw [if_neg h]; exact hz.resolve_left h
theorem wx_lret {v : Int64} (hd : decode M.2.1 pc = .ok (.lreturn, 1)) (hty : M.2.2.2.1 = some .long) (hz : M.2.2.2.2.2 = 0 ∨ σ.1 = M.2.2.2.2.2) (hK0 : K [.long v] σ) : wx d M pc L [.long v] σ K := by
  intro X p l e R s m args below meth c Q nn hC hn hr H locs ls hW hS hl
  refine hr [.long v] σ H locs pc ls hK0 ?_ hW hS ⟨hd, hty⟩
  unfold zEnd
  by_cases h : M.2.2.2.2.2 = 0
  · rw [if_pos h]; exact hn h
  · rw [if_neg h]; exact hz.resolve_left h
theorem wx_vret (hd : decode M.2.1 pc = .ok (.return_, 1)) (hty : M.2.2.2.1 = none) (hz : M.2.2.2.2.2 = 0 ∨ σ.1 = M.2.2.2.2.2) (hK0 : K [] σ) : wx d M pc L [] σ K := by
  intro X p l e R s m args below meth c Q nn hC hn hr H locs ls hW hS hl
  refine hr [] σ H locs pc ls hK0 ?_ hW hS ⟨hd, hty⟩
  unfold zEnd
  by_cases h : M.2.2.2.2.2 = 0
  · rw [if_pos h]; exact hn h
  · rw [if_neg h]; exact hz.resolve_left h
end ZME
