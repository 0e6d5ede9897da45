/-! one row an instruction, of the small machine -/
section ZST
variable {d : Nat} {M : zMt} {pc : Nat} {L : List (Option Value)} {st : List Value} {σ : zS} {K : List Value → zS → Prop}
theorem wx_iload_n {k : Fin 4} {i : Nat} {v : Int32} (hd : decode M.2.1 pc = .ok (.iload_n k, 1)) (hi : (k : Nat) = i) (hl0 : L[i]? = some (some (.int v))) (kk : wx d M (pc + 1) L (.int v :: st) σ K) : wx d M pc L st σ K := by
  intro X p l e R s m args below meth c Q nn hC hn hr H locs ls hW hS hl
  obtain ⟨hx, hb, hml, hown, hts, hret, hlk, hK, hNw, hnm, hdR, hlR, hcR, hsR⟩ := id hC
  exact lv_iload_n hx hb hd hi (zL_get hl hl0) (kk X p l e R s m args below meth c Q nn hC hn hr H locs ls hW hS hl)
theorem wx_iload {i : Nat} {v : Int32} (hd : decode M.2.1 pc = .ok (.iload i, 2)) (hl0 : L[i]? = some (some (.int v))) (kk : wx d M (pc + 2) L (.int v :: st) σ K) : wx d M pc L st σ K := by
  intro X p l e R s m args below meth c Q nn hC hn hr H locs ls hW hS hl
  obtain ⟨hx, hb, hml, hown, hts, hret, hlk, hK, hNw, hnm, hdR, hlR, hcR, hsR⟩ := id hC
  exact lv_iload hx hb hd (zL_get hl hl0) (kk X p l e R s m args below meth c Q nn hC hn hr H locs ls hW hS hl)
theorem wx_lload_n {k : Fin 4} {i : Nat} {v : Int64} (hd : decode M.2.1 pc = .ok (.lload_n k, 1)) (hi : (k : Nat) = i) (hl0 : L[i]? = some (some (.long v))) (kk : wx d M (pc + 1) L (.long v :: st) σ K) : wx d M pc L st σ K := by
  intro X p l e R s m args below meth c Q nn hC hn hr H locs ls hW hS hl
  obtain ⟨hx, hb, hml, hown, hts, hret, hlk, hK, hNw, hnm, hdR, hlR, hcR, hsR⟩ := id hC
  exact lv_lload_n hx hb hd hi (zL_get hl hl0) (kk X p l e R s m args below meth c Q nn hC hn hr H locs ls hW hS hl)
theorem wx_lload {i : Nat} {v : Int64} (hd : decode M.2.1 pc = .ok (.lload i, 2)) (hl0 : L[i]? = some (some (.long v))) (kk : wx d M (pc + 2) L (.long v :: st) σ K) : wx d M pc L st σ K := by
  intro X p l e R s m args below meth c Q nn hC hn hr H locs ls hW hS hl
  obtain ⟨hx, hb, hml, hown, hts, hret, hlk, hK, hNw, hnm, hdR, hlR, hcR, hsR⟩ := id hC
  exact lv_lload hx hb hd (zL_get hl hl0) (kk X p l e R s m args below meth c Q nn hC hn hr H locs ls hW hS hl)
theorem wx_aload_n {k : Fin 4} {i : Nat} {v : Nat} (hd : decode M.2.1 pc = .ok (.aload_n k, 1)) (hi : (k : Nat) = i) (hl0 : L[i]? = some (some (.ref v))) (kk : wx d M (pc + 1) L (.ref v :: st) σ K) : wx d M pc L st σ K := by
  intro X p l e R s m args below meth c Q nn hC hn hr H locs ls hW hS hl
  obtain ⟨hx, hb, hml, hown, hts, hret, hlk, hK, hNw, hnm, hdR, hlR, hcR, hsR⟩ := id hC
  exact lv_aload_n hx hb hd hi (zL_get hl hl0) (kk X p l e R s m args below meth c Q nn hC hn hr H locs ls hW hS hl)
theorem wx_aload {i : Nat} {v : Nat} (hd : decode M.2.1 pc = .ok (.aload i, 2)) (hl0 : L[i]? = some (some (.ref v))) (kk : wx d M (pc + 2) L (.ref v :: st) σ K) : wx d M pc L st σ K := by
  intro X p l e R s m args below meth c Q nn hC hn hr H locs ls hW hS hl
  obtain ⟨hx, hb, hml, hown, hts, hret, hlk, hK, hNw, hnm, hdR, hlR, hcR, hsR⟩ := id hC
  exact lv_aload hx hb hd (zL_get hl hl0) (kk X p l e R s m args below meth c Q nn hC hn hr H locs ls hW hS hl)
theorem wx_aloads_n {k : Fin 4} {i : Nat} (hd : decode M.2.1 pc = .ok (.aload_n k, 1)) (hi : (k : Nat) = i) (hl0 : L[i]? = some (some .null)) (kk : wx d M (pc + 1) L (.null :: st) σ K) : wx d M pc L st σ K := by
  intro X p l e R s m args below meth c Q nn hC hn hr H locs ls hW hS hl
  obtain ⟨hx, hb, hml, hown, hts, hret, hlk, hK, hNw, hnm, hdR, hlR, hcR, hsR⟩ := id hC
  exact lv_aload_n hx hb hd hi (zL_get hl hl0) (kk X p l e R s m args below meth c Q nn hC hn hr H locs ls hW hS hl)
theorem wx_iconst {n : Int} {v : Int32} (hd : decode M.2.1 pc = .ok (.iconst n, 1)) (hv : Int32.ofInt n = v) (kk : wx d M (pc + 1) L (.int v :: st) σ K) : wx d M pc L st σ K := by
  intro X p l e R s m args below meth c Q nn hC hn hr H locs ls hW hS hl
  obtain ⟨hx, hb, hml, hown, hts, hret, hlk, hK, hNw, hnm, hdR, hlR, hcR, hsR⟩ := id hC
  exact lv_iconst hx hb hd hv (kk X p l e R s m args below meth c Q nn hC hn hr H locs ls hW hS hl)
theorem wx_bipush {n : Int} {v : Int32} (hd : decode M.2.1 pc = .ok (.bipush n, 2)) (hv : (Int8.ofInt n).toInt32 = v) (kk : wx d M (pc + 2) L (.int v :: st) σ K) : wx d M pc L st σ K := by
  intro X p l e R s m args below meth c Q nn hC hn hr H locs ls hW hS hl
  obtain ⟨hx, hb, hml, hown, hts, hret, hlk, hK, hNw, hnm, hdR, hlR, hcR, hsR⟩ := id hC
  exact lv_bipush hx hb hd hv (kk X p l e R s m args below meth c Q nn hC hn hr H locs ls hW hS hl)
theorem wx_sipush {n : Int} {v : Int32} (hd : decode M.2.1 pc = .ok (.sipush n, 3)) (hv : (Int16.ofInt n).toInt32 = v) (kk : wx d M (pc + 3) L (.int v :: st) σ K) : wx d M pc L st σ K := by
  intro X p l e R s m args below meth c Q nn hC hn hr H locs ls hW hS hl
  obtain ⟨hx, hb, hml, hown, hts, hret, hlk, hK, hNw, hnm, hdR, hlR, hcR, hsR⟩ := id hC
  exact lv_sipush hx hb hd hv (kk X p l e R s m args below meth c Q nn hC hn hr H locs ls hW hS hl)
theorem wx_lconst {n : Fin 2} {v : Int64} (hd : decode M.2.1 pc = .ok (.lconst n, 1)) (hv : Int64.ofNat (n : Nat) = v) (kk : wx d M (pc + 1) L (.long v :: st) σ K) : wx d M pc L st σ K := by
  intro X p l e R s m args below meth c Q nn hC hn hr H locs ls hW hS hl
  obtain ⟨hx, hb, hml, hown, hts, hret, hlk, hK, hNw, hnm, hdR, hlR, hcR, hsR⟩ := id hC
  exact lv_lconst hx hb hd hv (kk X p l e R s m args below meth c Q nn hC hn hr H locs ls hW hS hl)
theorem wx_ldc {i : Nat} {v : Int32} (hd : decode M.2.1 pc = .ok (.ldc i, 2)) (hv : Cond.constant M.1.cls i v ∈ zT) (kk : wx d M (pc + 2) L (.int v :: st) σ K) : wx d M pc L st σ K := by
  intro X p l e R s m args below meth c Q nn hC hn hr H locs ls hW hS hl
  obtain ⟨hx, hb, hml, hown, hts, hret, hlk, hK, hNw, hnm, hdR, hlR, hcR, hsR⟩ := id hC
  exact lv_ldc hx hb hown (hts _ hv) hd (kk X p l e R s m args below meth c Q nn hC hn hr H locs ls hW hS hl)
theorem wx_ldcw {i : Nat} {v : Int32} (hd : decode M.2.1 pc = .ok (.ldc_w i, 3)) (hv : Cond.constant M.1.cls i v ∈ zT) (kk : wx d M (pc + 3) L (.int v :: st) σ K) : wx d M pc L st σ K := by
  intro X p l e R s m args below meth c Q nn hC hn hr H locs ls hW hS hl
  obtain ⟨hx, hb, hml, hown, hts, hret, hlk, hK, hNw, hnm, hdR, hlR, hcR, hsR⟩ := id hC
  exact lv_ldcw hx hb hown (hts _ hv) hd (kk X p l e R s m args below meth c Q nn hC hn hr H locs ls hW hS hl)
theorem wx_ldc2 {i : Nat} {v : Int64} (hd : decode M.2.1 pc = .ok (.ldc2_w i, 3)) (hv : Cond.constantLong M.1.cls i v ∈ zT) (kk : wx d M (pc + 3) L (.long v :: st) σ K) : wx d M pc L st σ K := by
  intro X p l e R s m args below meth c Q nn hC hn hr H locs ls hW hS hl
  obtain ⟨hx, hb, hml, hown, hts, hret, hlk, hK, hNw, hnm, hdR, hlR, hcR, hsR⟩ := id hC
  exact lv_ldc2 hx hb hown (hts _ hv) hd (kk X p l e R s m args below meth c Q nn hC hn hr H locs ls hW hS hl)
theorem wx_istore_n {k : Fin 4} {i : Nat} {v : Int32} (hd : decode M.2.1 pc = .ok (.istore_n k, 1)) (hi : (k : Nat) = i) (hin : i < M.2.2.1) (hno : zNoL L i = true) (kk : wx d M (pc + 1) (L.set i (some (.int v))) st σ K) : wx d M pc L (.int v :: st) σ K := by
  intro X p l e R s m args below meth c Q nn hC hn hr H locs ls hW hS hl
  obtain ⟨hx, hb, hml, hown, hts, hret, hlk, hK, hNw, hnm, hdR, hlR, hcR, hsR⟩ := id hC
  exact lv_istore_n hx hb hd hi hl hin rfl (fun ls2 hl2 => kk X p l e R s m args below meth c Q nn hC hn hr H locs ls2 hW hS (zL_st1 (v := .int v) hno hl2))
theorem wx_istore {i : Nat} {v : Int32} (hd : decode M.2.1 pc = .ok (.istore i, 2)) (hin : i < M.2.2.1) (hno : zNoL L i = true) (kk : wx d M (pc + 2) (L.set i (some (.int v))) st σ K) : wx d M pc L (.int v :: st) σ K := by
  intro X p l e R s m args below meth c Q nn hC hn hr H locs ls hW hS hl
  obtain ⟨hx, hb, hml, hown, hts, hret, hlk, hK, hNw, hnm, hdR, hlR, hcR, hsR⟩ := id hC
  exact lv_istore hx hb hd hl hin rfl (fun ls2 hl2 => kk X p l e R s m args below meth c Q nn hC hn hr H locs ls2 hW hS (zL_st1 (v := .int v) hno hl2))
theorem wx_astore_n {k : Fin 4} {i : Nat} {v : Nat} (hd : decode M.2.1 pc = .ok (.astore_n k, 1)) (hi : (k : Nat) = i) (hin : i < M.2.2.1) (hno : zNoL L i = true) (kk : wx d M (pc + 1) (L.set i (some (.ref v))) st σ K) : wx d M pc L (.ref v :: st) σ K := by
  intro X p l e R s m args below meth c Q nn hC hn hr H locs ls hW hS hl
  obtain ⟨hx, hb, hml, hown, hts, hret, hlk, hK, hNw, hnm, hdR, hlR, hcR, hsR⟩ := id hC
  exact lv_astore_n hx hb hd hi hl hin rfl (fun ls2 hl2 => kk X p l e R s m args below meth c Q nn hC hn hr H locs ls2 hW hS (zL_st1 (v := .ref v) hno hl2))
theorem wx_astore {i : Nat} {v : Nat} (hd : decode M.2.1 pc = .ok (.astore i, 2)) (hin : i < M.2.2.1) (hno : zNoL L i = true) (kk : wx d M (pc + 2) (L.set i (some (.ref v))) st σ K) : wx d M pc L (.ref v :: st) σ K := by
  intro X p l e R s m args below meth c Q nn hC hn hr H locs ls hW hS hl
  obtain ⟨hx, hb, hml, hown, hts, hret, hlk, hK, hNw, hnm, hdR, hlR, hcR, hsR⟩ := id hC
  exact lv_astore hx hb hd hl hin rfl (fun ls2 hl2 => kk X p l e R s m args below meth c Q nn hC hn hr H locs ls2 hW hS (zL_st1 (v := .ref v) hno hl2))
theorem wx_lstore_n {k : Fin 4} {i : Nat} {v : Int64} (hd : decode M.2.1 pc = .ok (.lstore_n k, 1)) (hi : (k : Nat) = i) (hin : i + 1 < M.2.2.1) (hno : zNoL L i = true) (kk : wx d M (pc + 1) ((L.set i (some (.long v))).set (i + 1) none) st σ K) : wx d M pc L (.long v :: st) σ K := by
  intro X p l e R s m args below meth c Q nn hC hn hr H locs ls hW hS hl
  obtain ⟨hx, hb, hml, hown, hts, hret, hlk, hK, hNw, hnm, hdR, hlR, hcR, hsR⟩ := id hC
  exact lv_lstore_n hx hb hd hi hl hin rfl (fun ls2 hl2 => kk X p l e R s m args below meth c Q nn hC hn hr H locs ls2 hW hS (zL_st2 (v := .long v) hno hl2))
theorem wx_lstore {i : Nat} {v : Int64} (hd : decode M.2.1 pc = .ok (.lstore i, 2)) (hin : i + 1 < M.2.2.1) (hno : zNoL L i = true) (kk : wx d M (pc + 2) ((L.set i (some (.long v))).set (i + 1) none) st σ K) : wx d M pc L (.long v :: st) σ K := by
  intro X p l e R s m args below meth c Q nn hC hn hr H locs ls hW hS hl
  obtain ⟨hx, hb, hml, hown, hts, hret, hlk, hK, hNw, hnm, hdR, hlR, hcR, hsR⟩ := id hC
  exact lv_lstore hx hb hd hl hin rfl (fun ls2 hl2 => kk X p l e R s m args below meth c Q nn hC hn hr H locs ls2 hW hS (zL_st2 (v := .long v) hno hl2))
theorem wx_iinc {i : Nat} {n : Int} {v u : Int32} (hd : decode M.2.1 pc = .ok (.iinc i n, 3)) (hl0 : L[i]? = some (some (.int v))) (hu : v + Int32.ofInt n = u) (hin : i < M.2.2.1) (hno : zNoL L i = true) (kk : wx d M (pc + 3) (L.set i (some (.int u))) st σ K) : wx d M pc L st σ K := by
  intro X p l e R s m args below meth c Q nn hC hn hr H locs ls hW hS hl
  obtain ⟨hx, hb, hml, hown, hts, hret, hlk, hK, hNw, hnm, hdR, hlR, hcR, hsR⟩ := id hC
  obtain ⟨kp, hkp⟩ := List.getElem?_of_mem (zPairs_in (X := X) hl0)
  exact lv_iinc hx hb hd hl hkp hu hin rfl (fun ls2 hl2 => kk X p l e R s m args below meth c Q nn hC hn hr H locs ls2 hW hS (zL_st1 (v := .int u) hno hl2))
theorem wx_iadd {a b : Int32} (hd : decode M.2.1 pc = .ok (.iadd, 1)) (kk : wx d M (pc + 1) L (.int (a + b) :: st) σ K) : wx d M pc L (.int b :: .int a :: st) σ K := by
  intro X p l e R s m args below meth c Q nn hC hn hr H locs ls hW hS hl
  obtain ⟨hx, hb, hml, hown, hts, hret, hlk, hK, hNw, hnm, hdR, hlR, hcR, hsR⟩ := id hC
  exact lv_iadd hx hb hd (kk X p l e R s m args below meth c Q nn hC hn hr H locs ls hW hS hl)
theorem wx_isub {a b : Int32} (hd : decode M.2.1 pc = .ok (.isub, 1)) (kk : wx d M (pc + 1) L (.int (a - b) :: st) σ K) : wx d M pc L (.int b :: .int a :: st) σ K := by
  intro X p l e R s m args below meth c Q nn hC hn hr H locs ls hW hS hl
  obtain ⟨hx, hb, hml, hown, hts, hret, hlk, hK, hNw, hnm, hdR, hlR, hcR, hsR⟩ := id hC
  exact lv_isub hx hb hd (kk X p l e R s m args below meth c Q nn hC hn hr H locs ls hW hS hl)
theorem wx_imul {a b : Int32} (hd : decode M.2.1 pc = .ok (.imul, 1)) (kk : wx d M (pc + 1) L (.int (a * b) :: st) σ K) : wx d M pc L (.int b :: .int a :: st) σ K := by
  intro X p l e R s m args below meth c Q nn hC hn hr H locs ls hW hS hl
  obtain ⟨hx, hb, hml, hown, hts, hret, hlk, hK, hNw, hnm, hdR, hlR, hcR, hsR⟩ := id hC
  exact lv_imul hx hb hd (kk X p l e R s m args below meth c Q nn hC hn hr H locs ls hW hS hl)
theorem wx_iand {a b : Int32} (hd : decode M.2.1 pc = .ok (.iand, 1)) (kk : wx d M (pc + 1) L (.int (a &&& b) :: st) σ K) : wx d M pc L (.int b :: .int a :: st) σ K := by
  intro X p l e R s m args below meth c Q nn hC hn hr H locs ls hW hS hl
  obtain ⟨hx, hb, hml, hown, hts, hret, hlk, hK, hNw, hnm, hdR, hlR, hcR, hsR⟩ := id hC
  exact lv_iand hx hb hd (kk X p l e R s m args below meth c Q nn hC hn hr H locs ls hW hS hl)
theorem wx_ior {a b : Int32} (hd : decode M.2.1 pc = .ok (.ior, 1)) (kk : wx d M (pc + 1) L (.int (a ||| b) :: st) σ K) : wx d M pc L (.int b :: .int a :: st) σ K := by
  intro X p l e R s m args below meth c Q nn hC hn hr H locs ls hW hS hl
  obtain ⟨hx, hb, hml, hown, hts, hret, hlk, hK, hNw, hnm, hdR, hlR, hcR, hsR⟩ := id hC
  exact lv_ior hx hb hd (kk X p l e R s m args below meth c Q nn hC hn hr H locs ls hW hS hl)
theorem wx_ixor {a b : Int32} (hd : decode M.2.1 pc = .ok (.ixor, 1)) (kk : wx d M (pc + 1) L (.int (a ^^^ b) :: st) σ K) : wx d M pc L (.int b :: .int a :: st) σ K := by
  intro X p l e R s m args below meth c Q nn hC hn hr H locs ls hW hS hl
  obtain ⟨hx, hb, hml, hown, hts, hret, hlk, hK, hNw, hnm, hdR, hlR, hcR, hsR⟩ := id hC
  exact lv_ixor hx hb hd (kk X p l e R s m args below meth c Q nn hC hn hr H locs ls hW hS hl)
theorem wx_ishl {a b : Int32} (hd : decode M.2.1 pc = .ok (.ishl, 1)) (kk : wx d M (pc + 1) L (.int (a <<< (b &&& 31)) :: st) σ K) : wx d M pc L (.int b :: .int a :: st) σ K := by
  intro X p l e R s m args below meth c Q nn hC hn hr H locs ls hW hS hl
  obtain ⟨hx, hb, hml, hown, hts, hret, hlk, hK, hNw, hnm, hdR, hlR, hcR, hsR⟩ := id hC
  exact lv_ishl hx hb hd (kk X p l e R s m args below meth c Q nn hC hn hr H locs ls hW hS hl)
theorem wx_idiv {a b : Int32} (hd : decode M.2.1 pc = .ok (.idiv, 1)) (hne : ¬ b = 0) (kk : wx d M (pc + 1) L (.int (a / b) :: st) σ K) : wx d M pc L (.int b :: .int a :: st) σ K := by
  intro X p l e R s m args below meth c Q nn hC hn hr H locs ls hW hS hl
  obtain ⟨hx, hb, hml, hown, hts, hret, hlk, hK, hNw, hnm, hdR, hlR, hcR, hsR⟩ := id hC
  exact lv_idiv hx hb hd hne (kk X p l e R s m args below meth c Q nn hC hn hr H locs ls hW hS hl)
theorem wx_irem {a b : Int32} (hd : decode M.2.1 pc = .ok (.irem, 1)) (hne : ¬ b = 0) (kk : wx d M (pc + 1) L (.int (a - a / b * b) :: st) σ K) : wx d M pc L (.int b :: .int a :: st) σ K := by
  intro X p l e R s m args below meth c Q nn hC hn hr H locs ls hW hS hl
  obtain ⟨hx, hb, hml, hown, hts, hret, hlk, hK, hNw, hnm, hdR, hlR, hcR, hsR⟩ := id hC
  exact lv_irem hx hb hd hne (kk X p l e R s m args below meth c Q nn hC hn hr H locs ls hW hS hl)
theorem wx_iushr {a b : Int32} (hd : decode M.2.1 pc = .ok (.iushr, 1)) (kk : wx d M (pc + 1) L (.int ((a.toUInt32 >>> (b.toUInt32 &&& Int32.toUInt32 31)).toInt32) :: st) σ K) : wx d M pc L (.int b :: .int a :: st) σ K := by
  intro X p l e R s m args below meth c Q nn hC hn hr H locs ls hW hS hl
  obtain ⟨hx, hb, hml, hown, hts, hret, hlk, hK, hNw, hnm, hdR, hlR, hcR, hsR⟩ := id hC
  exact lv_iushr hx hb hd rfl (kk X p l e R s m args below meth c Q nn hC hn hr H locs ls hW hS hl)
theorem wx_ladd {a b : Int64} (hd : decode M.2.1 pc = .ok (.ladd, 1)) (kk : wx d M (pc + 1) L (.long (a + b) :: st) σ K) : wx d M pc L (.long b :: .long a :: st) σ K := by
  intro X p l e R s m args below meth c Q nn hC hn hr H locs ls hW hS hl
  obtain ⟨hx, hb, hml, hown, hts, hret, hlk, hK, hNw, hnm, hdR, hlR, hcR, hsR⟩ := id hC
  exact lv_ladd hx hb hd (kk X p l e R s m args below meth c Q nn hC hn hr H locs ls hW hS hl)
theorem wx_lmul {a b : Int64} (hd : decode M.2.1 pc = .ok (.lmul, 1)) (kk : wx d M (pc + 1) L (.long (a * b) :: st) σ K) : wx d M pc L (.long b :: .long a :: st) σ K := by
  intro X p l e R s m args below meth c Q nn hC hn hr H locs ls hW hS hl
  obtain ⟨hx, hb, hml, hown, hts, hret, hlk, hK, hNw, hnm, hdR, hlR, hcR, hsR⟩ := id hC
  exact lv_lmul hx hb hd (kk X p l e R s m args below meth c Q nn hC hn hr H locs ls hW hS hl)
theorem wx_ldiv {a b : Int64} (hd : decode M.2.1 pc = .ok (.ldiv, 1)) (hne : ¬ b = 0) (kk : wx d M (pc + 1) L (.long (a / b) :: st) σ K) : wx d M pc L (.long b :: .long a :: st) σ K := by
  intro X p l e R s m args below meth c Q nn hC hn hr H locs ls hW hS hl
  obtain ⟨hx, hb, hml, hown, hts, hret, hlk, hK, hNw, hnm, hdR, hlR, hcR, hsR⟩ := id hC
  exact lv_ldiv hx hb hd hne (kk X p l e R s m args below meth c Q nn hC hn hr H locs ls hW hS hl)
theorem wx_lrem {a b : Int64} (hd : decode M.2.1 pc = .ok (.lrem, 1)) (hne : ¬ b = 0) (kk : wx d M (pc + 1) L (.long (a - a / b * b) :: st) σ K) : wx d M pc L (.long b :: .long a :: st) σ K := by
  intro X p l e R s m args below meth c Q nn hC hn hr H locs ls hW hS hl
  obtain ⟨hx, hb, hml, hown, hts, hret, hlk, hK, hNw, hnm, hdR, hlR, hcR, hsR⟩ := id hC
  exact lv_lrem hx hb hd hne (kk X p l e R s m args below meth c Q nn hC hn hr H locs ls hW hS hl)
theorem wx_lcmp {a b : Int64} (hd : decode M.2.1 pc = .ok (.lcmp, 1)) (kk : wx d M (pc + 1) L (.int (lg_cmp a b) :: st) σ K) : wx d M pc L (.long b :: .long a :: st) σ K := by
  intro X p l e R s m args below meth c Q nn hC hn hr H locs ls hW hS hl
  obtain ⟨hx, hb, hml, hown, hts, hret, hlk, hK, hNw, hnm, hdR, hlR, hcR, hsR⟩ := id hC
  exact W.lcmp hx hb hd (kk X p l e R s m args below meth c Q nn hC hn hr H locs ls hW hS hl)
theorem wx_ineg {a : Int32} (hd : decode M.2.1 pc = .ok (.ineg, 1)) (kk : wx d M (pc + 1) L (.int (-a) :: st) σ K) : wx d M pc L (.int a :: st) σ K := by
  intro X p l e R s m args below meth c Q nn hC hn hr H locs ls hW hS hl
  obtain ⟨hx, hb, hml, hown, hts, hret, hlk, hK, hNw, hnm, hdR, hlR, hcR, hsR⟩ := id hC
  exact lv_ineg hx hb hd (kk X p l e R s m args below meth c Q nn hC hn hr H locs ls hW hS hl)
theorem wx_lneg {a : Int64} (hd : decode M.2.1 pc = .ok (.lneg, 1)) (kk : wx d M (pc + 1) L (.long (-a) :: st) σ K) : wx d M pc L (.long a :: st) σ K := by
  intro X p l e R s m args below meth c Q nn hC hn hr H locs ls hW hS hl
  obtain ⟨hx, hb, hml, hown, hts, hret, hlk, hK, hNw, hnm, hdR, hlR, hcR, hsR⟩ := id hC
  exact lv_lneg hx hb hd (kk X p l e R s m args below meth c Q nn hC hn hr H locs ls hW hS hl)
theorem wx_i2l {a : Int32} (hd : decode M.2.1 pc = .ok (.i2l, 1)) (kk : wx d M (pc + 1) L (.long a.toInt64 :: st) σ K) : wx d M pc L (.int a :: st) σ K := by
  intro X p l e R s m args below meth c Q nn hC hn hr H locs ls hW hS hl
  obtain ⟨hx, hb, hml, hown, hts, hret, hlk, hK, hNw, hnm, hdR, hlR, hcR, hsR⟩ := id hC
  exact lv_i2l hx hb hd rfl (kk X p l e R s m args below meth c Q nn hC hn hr H locs ls hW hS hl)
theorem wx_dup {v : Value} (hd : decode M.2.1 pc = .ok (.dup, 1)) (hv : v.category = 1) (kk : wx d M (pc + 1) L (v :: v :: st) σ K) : wx d M pc L (v :: st) σ K := by
  intro X p l e R s m args below meth c Q nn hC hn hr H locs ls hW hS hl
  obtain ⟨hx, hb, hml, hown, hts, hret, hlk, hK, hNw, hnm, hdR, hlR, hcR, hsR⟩ := id hC
  exact lv_dup hx hb hd (by rw [zV_cat]; exact hv) (kk X p l e R s m args below meth c Q nn hC hn hr H locs ls hW hS hl)
theorem wx_dup2 {v u : Value} (hd : decode M.2.1 pc = .ok (.dup2, 1)) (hv : v.category = 1) (hu : u.category = 1) (kk : wx d M (pc + 1) L (v :: u :: v :: u :: st) σ K) : wx d M pc L (v :: u :: st) σ K := by
  intro X p l e R s m args below meth c Q nn hC hn hr H locs ls hW hS hl
  obtain ⟨hx, hb, hml, hown, hts, hret, hlk, hK, hNw, hnm, hdR, hlR, hcR, hsR⟩ := id hC
  exact lv_dup2_11 hx hb hd (by rw [zV_cat]; exact hv) (by rw [zV_cat]; exact hu) (kk X p l e R s m args below meth c Q nn hC hn hr H locs ls hW hS hl)
theorem wx_pop {v : Value} (hd : decode M.2.1 pc = .ok (.pop, 1)) (hv : v.category = 1) (kk : wx d M (pc + 1) L st σ K) : wx d M pc L (v :: st) σ K := by
  intro X p l e R s m args below meth c Q nn hC hn hr H locs ls hW hS hl
  obtain ⟨hx, hb, hml, hown, hts, hret, hlk, hK, hNw, hnm, hdR, hlR, hcR, hsR⟩ := id hC
  exact lv_pop hx hb hd (by rw [zV_cat]; exact hv) (kk X p l e R s m args below meth c Q nn hC hn hr H locs ls hW hS hl)
theorem wx_icmp_eq {a b : Int32} {off : Int} {tgt : Nat} (hd : decode M.2.1 pc = .ok (.if_icmp .eq off, 3)) (ht : (pc : Int) + off = (tgt : Int)) (kt : a = b → wx d M tgt L st σ K) (kf : ¬ a = b → wx d M (pc + 3) L st σ K) : wx d M pc L (.int b :: .int a :: st) σ K := by
  intro X p l e R s m args below meth c Q nn hC hn hr H locs ls hW hS hl
  obtain ⟨hx, hb, hml, hown, hts, hret, hlk, hK, hNw, hnm, hdR, hlR, hcR, hsR⟩ := id hC
  exact lv_icmp_eq hx hb hd ht (fun q => kt q X p l e R s m args below meth c Q nn hC hn hr H locs ls hW hS hl) (fun q => kf q X p l e R s m args below meth c Q nn hC hn hr H locs ls hW hS hl)
theorem wx_icmp_ne {a b : Int32} {off : Int} {tgt : Nat} (hd : decode M.2.1 pc = .ok (.if_icmp .ne off, 3)) (ht : (pc : Int) + off = (tgt : Int)) (kt : ¬ a = b → wx d M tgt L st σ K) (kf : a = b → wx d M (pc + 3) L st σ K) : wx d M pc L (.int b :: .int a :: st) σ K := by
  intro X p l e R s m args below meth c Q nn hC hn hr H locs ls hW hS hl
  obtain ⟨hx, hb, hml, hown, hts, hret, hlk, hK, hNw, hnm, hdR, hlR, hcR, hsR⟩ := id hC
  exact lv_icmp_ne hx hb hd ht (fun q => kt q X p l e R s m args below meth c Q nn hC hn hr H locs ls hW hS hl) (fun q => kf q X p l e R s m args below meth c Q nn hC hn hr H locs ls hW hS hl)
theorem wx_icmp_lt {a b : Int32} {off : Int} {tgt : Nat} (hd : decode M.2.1 pc = .ok (.if_icmp .lt off, 3)) (ht : (pc : Int) + off = (tgt : Int)) (kt : a < b → wx d M tgt L st σ K) (kf : ¬ a < b → wx d M (pc + 3) L st σ K) : wx d M pc L (.int b :: .int a :: st) σ K := by
  intro X p l e R s m args below meth c Q nn hC hn hr H locs ls hW hS hl
  obtain ⟨hx, hb, hml, hown, hts, hret, hlk, hK, hNw, hnm, hdR, hlR, hcR, hsR⟩ := id hC
  exact lv_icmp_lt hx hb hd ht (fun q => kt q X p l e R s m args below meth c Q nn hC hn hr H locs ls hW hS hl) (fun q => kf q X p l e R s m args below meth c Q nn hC hn hr H locs ls hW hS hl)
theorem wx_icmp_ge {a b : Int32} {off : Int} {tgt : Nat} (hd : decode M.2.1 pc = .ok (.if_icmp .ge off, 3)) (ht : (pc : Int) + off = (tgt : Int)) (kt : b ≤ a → wx d M tgt L st σ K) (kf : ¬ b ≤ a → wx d M (pc + 3) L st σ K) : wx d M pc L (.int b :: .int a :: st) σ K := by
  intro X p l e R s m args below meth c Q nn hC hn hr H locs ls hW hS hl
  obtain ⟨hx, hb, hml, hown, hts, hret, hlk, hK, hNw, hnm, hdR, hlR, hcR, hsR⟩ := id hC
  exact lv_icmp_ge hx hb hd ht (fun q => kt q X p l e R s m args below meth c Q nn hC hn hr H locs ls hW hS hl) (fun q => kf q X p l e R s m args below meth c Q nn hC hn hr H locs ls hW hS hl)
theorem wx_icmp_gt {a b : Int32} {off : Int} {tgt : Nat} (hd : decode M.2.1 pc = .ok (.if_icmp .gt off, 3)) (ht : (pc : Int) + off = (tgt : Int)) (kt : b < a → wx d M tgt L st σ K) (kf : ¬ b < a → wx d M (pc + 3) L st σ K) : wx d M pc L (.int b :: .int a :: st) σ K := by
  intro X p l e R s m args below meth c Q nn hC hn hr H locs ls hW hS hl
  obtain ⟨hx, hb, hml, hown, hts, hret, hlk, hK, hNw, hnm, hdR, hlR, hcR, hsR⟩ := id hC
  exact lv_icmp_gt hx hb hd ht (fun q => kt q X p l e R s m args below meth c Q nn hC hn hr H locs ls hW hS hl) (fun q => kf q X p l e R s m args below meth c Q nn hC hn hr H locs ls hW hS hl)
theorem wx_icmp_le {a b : Int32} {off : Int} {tgt : Nat} (hd : decode M.2.1 pc = .ok (.if_icmp .le off, 3)) (ht : (pc : Int) + off = (tgt : Int)) (kt : a ≤ b → wx d M tgt L st σ K) (kf : ¬ a ≤ b → wx d M (pc + 3) L st σ K) : wx d M pc L (.int b :: .int a :: st) σ K := by
  intro X p l e R s m args below meth c Q nn hC hn hr H locs ls hW hS hl
  obtain ⟨hx, hb, hml, hown, hts, hret, hlk, hK, hNw, hnm, hdR, hlR, hcR, hsR⟩ := id hC
  exact lv_icmp_le hx hb hd ht (fun q => kt q X p l e R s m args below meth c Q nn hC hn hr H locs ls hW hS hl) (fun q => kf q X p l e R s m args below meth c Q nn hC hn hr H locs ls hW hS hl)
theorem wx_if_eq {a : Int32} {off : Int} {tgt : Nat} (hd : decode M.2.1 pc = .ok (.ifCond .eq off, 3)) (ht : (pc : Int) + off = (tgt : Int)) (kt : a = 0 → wx d M tgt L st σ K) (kf : ¬ a = 0 → wx d M (pc + 3) L st σ K) : wx d M pc L (.int a :: st) σ K := by
  intro X p l e R s m args below meth c Q nn hC hn hr H locs ls hW hS hl
  obtain ⟨hx, hb, hml, hown, hts, hret, hlk, hK, hNw, hnm, hdR, hlR, hcR, hsR⟩ := id hC
  exact lv_if_eq hx hb hd ht (fun q => kt q X p l e R s m args below meth c Q nn hC hn hr H locs ls hW hS hl) (fun q => kf q X p l e R s m args below meth c Q nn hC hn hr H locs ls hW hS hl)
theorem wx_if_ne {a : Int32} {off : Int} {tgt : Nat} (hd : decode M.2.1 pc = .ok (.ifCond .ne off, 3)) (ht : (pc : Int) + off = (tgt : Int)) (kt : ¬ a = 0 → wx d M tgt L st σ K) (kf : a = 0 → wx d M (pc + 3) L st σ K) : wx d M pc L (.int a :: st) σ K := by
  intro X p l e R s m args below meth c Q nn hC hn hr H locs ls hW hS hl
  obtain ⟨hx, hb, hml, hown, hts, hret, hlk, hK, hNw, hnm, hdR, hlR, hcR, hsR⟩ := id hC
  exact lv_if_ne hx hb hd ht (fun q => kt q X p l e R s m args below meth c Q nn hC hn hr H locs ls hW hS hl) (fun q => kf q X p l e R s m args below meth c Q nn hC hn hr H locs ls hW hS hl)
theorem wx_if_lt {a : Int32} {off : Int} {tgt : Nat} (hd : decode M.2.1 pc = .ok (.ifCond .lt off, 3)) (ht : (pc : Int) + off = (tgt : Int)) (kt : a < 0 → wx d M tgt L st σ K) (kf : ¬ a < 0 → wx d M (pc + 3) L st σ K) : wx d M pc L (.int a :: st) σ K := by
  intro X p l e R s m args below meth c Q nn hC hn hr H locs ls hW hS hl
  obtain ⟨hx, hb, hml, hown, hts, hret, hlk, hK, hNw, hnm, hdR, hlR, hcR, hsR⟩ := id hC
  exact lv_if_lt hx hb hd ht (fun q => kt q X p l e R s m args below meth c Q nn hC hn hr H locs ls hW hS hl) (fun q => kf q X p l e R s m args below meth c Q nn hC hn hr H locs ls hW hS hl)
theorem wx_if_ge {a : Int32} {off : Int} {tgt : Nat} (hd : decode M.2.1 pc = .ok (.ifCond .ge off, 3)) (ht : (pc : Int) + off = (tgt : Int)) (kt : 0 ≤ a → wx d M tgt L st σ K) (kf : ¬ 0 ≤ a → wx d M (pc + 3) L st σ K) : wx d M pc L (.int a :: st) σ K := by
  intro X p l e R s m args below meth c Q nn hC hn hr H locs ls hW hS hl
  obtain ⟨hx, hb, hml, hown, hts, hret, hlk, hK, hNw, hnm, hdR, hlR, hcR, hsR⟩ := id hC
  exact lv_if_ge hx hb hd ht (fun q => kt q X p l e R s m args below meth c Q nn hC hn hr H locs ls hW hS hl) (fun q => kf q X p l e R s m args below meth c Q nn hC hn hr H locs ls hW hS hl)
theorem wx_if_gt {a : Int32} {off : Int} {tgt : Nat} (hd : decode M.2.1 pc = .ok (.ifCond .gt off, 3)) (ht : (pc : Int) + off = (tgt : Int)) (kt : 0 < a → wx d M tgt L st σ K) (kf : ¬ 0 < a → wx d M (pc + 3) L st σ K) : wx d M pc L (.int a :: st) σ K := by
  intro X p l e R s m args below meth c Q nn hC hn hr H locs ls hW hS hl
  obtain ⟨hx, hb, hml, hown, hts, hret, hlk, hK, hNw, hnm, hdR, hlR, hcR, hsR⟩ := id hC
  exact lv_if_gt hx hb hd ht (fun q => kt q X p l e R s m args below meth c Q nn hC hn hr H locs ls hW hS hl) (fun q => kf q X p l e R s m args below meth c Q nn hC hn hr H locs ls hW hS hl)
theorem wx_if_le {a : Int32} {off : Int} {tgt : Nat} (hd : decode M.2.1 pc = .ok (.ifCond .le off, 3)) (ht : (pc : Int) + off = (tgt : Int)) (kt : a ≤ 0 → wx d M tgt L st σ K) (kf : ¬ a ≤ 0 → wx d M (pc + 3) L st σ K) : wx d M pc L (.int a :: st) σ K := by
  intro X p l e R s m args below meth c Q nn hC hn hr H locs ls hW hS hl
  obtain ⟨hx, hb, hml, hown, hts, hret, hlk, hK, hNw, hnm, hdR, hlR, hcR, hsR⟩ := id hC
  exact lv_if_le hx hb hd ht (fun q => kt q X p l e R s m args below meth c Q nn hC hn hr H locs ls hW hS hl) (fun q => kf q X p l e R s m args below meth c Q nn hC hn hr H locs ls hW hS hl)
theorem wx_goto {off : Int} {tgt : Nat} (hd : decode M.2.1 pc = .ok (.goto off, 3)) (ht : (pc : Int) + off = (tgt : Int)) (kk : wx d M tgt L st σ K) : wx d M pc L st σ K := by
  intro X p l e R s m args below meth c Q nn hC hn hr H locs ls hW hS hl
  obtain ⟨hx, hb, hml, hown, hts, hret, hlk, hK, hNw, hnm, hdR, hlR, hcR, hsR⟩ := id hC
  exact lv_goto hx hb hd ht (kk X p l e R s m args below meth c Q nn hC hn hr H locs ls hW hS hl)
theorem wx_tableIn {dflt lo hi : Int} {offs : Array Int} {len : Nat} {a : Int32} {off : Int} {tgt : Nat} (hd : decode M.2.1 pc = .ok (.tableswitch dflt lo hi offs, len)) (h1 : ¬ a.toInt < lo) (h2 : ¬ hi < a.toInt) (ho : offs[(a.toInt - lo).toNat]? = some off) (ht : (pc : Int) + off = (tgt : Int)) (kk : wx d M tgt L st σ K) : wx d M pc L (.int a :: st) σ K := by
  intro X p l e R s m args below meth c Q nn hC hn hr H locs ls hW hS hl
  obtain ⟨hx, hb, hml, hown, hts, hret, hlk, hK, hNw, hnm, hdR, hlR, hcR, hsR⟩ := id hC
  exact lv_tableIn hx hb hd h1 h2 ho ht (kk X p l e R s m args below meth c Q nn hC hn hr H locs ls hW hS hl)
theorem wx_tableOut {dflt lo hi : Int} {offs : Array Int} {len : Nat} {a : Int32} {tgt : Nat} (hd : decode M.2.1 pc = .ok (.tableswitch dflt lo hi offs, len)) (h : a.toInt < lo ∨ hi < a.toInt) (ht : (pc : Int) + dflt = (tgt : Int)) (kk : wx d M tgt L st σ K) : wx d M pc L (.int a :: st) σ K := by
  intro X p l e R s m args below meth c Q nn hC hn hr H locs ls hW hS hl
  obtain ⟨hx, hb, hml, hown, hts, hret, hlk, hK, hNw, hnm, hdR, hlR, hcR, hsR⟩ := id hC
  exact lv_tableOut hx hb hd h ht (kk X p l e R s m args below meth c Q nn hC hn hr H locs ls hW hS hl)
end ZST
