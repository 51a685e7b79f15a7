/-! rows for what makes cells: the constructors; and calls beside a rest that stays -/
/-- the array classes over classes that the constructors make rows of -/
def zAo (U : State) : Prop := va_AO "ThreeDoors$Shelf" U ∧ (Cond.arrayOver (.array .int)).before #[] U = true
theorem za_moved {t : FieldType} {u U : State} (hvm : u.vm.Alike U.vm) (h : (Cond.arrayOver (.array t)).before #[] u = true) : (Cond.arrayOver (.array t)).before #[] U = true := by
  unfold Cond.before Cond.holds at h
  simp only [Cond.value, beq_iff_eq] at h
  cases hc : u.vm.findClass (FieldType.array t).toString with
  | none => simp [hc] at h
  | some comp =>
    simp only [hc, Option.bind_some, Option.bind_eq_some_iff, Option.map_eq_some_iff] at h
    obtain ⟨c, hi, k, hk, hb⟩ := h
    obtain ⟨k', hk', he⟩ := hvm.2.2 _ _ hk
    have hi2 : (U.vm.classes.findIdx? fun (x : Class) => match x.kind with | .array component _ => component == comp | _ => false) = some c := by
      have e1 := va_idx_bare U.vm comp
      have e2 := va_idx_bare u.vm comp
      rw [hvm.bare_eq] at e1
      exact (e1.symm.trans e2).trans hi
    have hkind : k'.kind = k.kind := by rw [he]
    have f1 : U.vm.findClass (FieldType.array t).toString = some comp := by rw [hvm.findClass]; exact hc
    unfold Cond.before Cond.holds
    simp only [Cond.value]
    rw [f1, Option.bind_some]
    refine (congrArg (fun o : Option Nat => (o.bind (fun c => (U.vm.classes[c]?).map fun (k : Class) => match k.kind with | .array _ ty => decide (ty = FieldType.array t) && decide (U.vm.findClass ("[" ++ (FieldType.array t).toString) = some c) | _ => false) == some true)) hi2).trans ?_
    simp only [Option.bind_some, hk', Option.map_some, hkind, hvm.findClass, beq_iff_eq, Option.some.injEq]
    exact hb
theorem zAo.moved {u U : State} (hvm : u.vm.Alike U.vm) (h : zAo u) : zAo U := ⟨h.1.moved hvm, za_moved hvm h.2⟩
theorem Cond.arrayOver_args {t : FieldType} {A : Array Value} {U : State} (h : (Cond.arrayOver t).before #[] U = true) : (Cond.arrayOver t).before A U = true := h
theorem zr_outer (c : ClassId) (N h0 : Nat) : ∀ i : Nat, Jvm.Free.Multi.outerC c N h0 i = arrV c N (fun j => va_rf (if j < i then some (h0 + 1 + j) else none))
  | 0 => by
    show ({ cls := c, slots := Array.replicate N .null, vm := .none } : Cell) = _
    rw [arrV_new]
    refine congrArg (arrV c N) (funext fun j => ?_)
    simp [va_rf]
  | i + 1 => by
    show (Jvm.Free.Multi.outerC c N h0 i).setSlot i (.ref (h0 + 1 + i)) = _
    rw [zr_outer c N h0 i, arrV_store]
    refine congrArg (arrV c N) (funext fun j => ?_)
    by_cases e : j = i
    · subst e
      simp [updV, va_rf]
    · by_cases h : j < i
      · simp [updV, e, h, Nat.lt_succ_of_lt h]
      · simp [updV, e, h, show ¬ j < i + 1 by omega]
theorem zr_get {x0 : Nat} {c1 c2 : va_E} (k : Nat) (x : Nat × va_E) (h : ((x0, c1) :: (List.range 14).map (fun i => (x0 + 1 + i, c2)))[k]? = some x) : (k = 0 ∧ x = (x0, c1)) ∨ ∃ j, j < 14 ∧ k = j + 1 ∧ x = (x0 + 1 + j, c2) := by
  cases k with
  | zero => rw [List.getElem?_cons_zero] at h; cases h; exact Or.inl ⟨rfl, rfl⟩
  | succ j =>
    rw [List.getElem?_cons_succ, List.getElem?_map] at h
    by_cases hj : j < 14
    · rw [List.getElem?_range hj] at h
      cases h
      exact Or.inr ⟨j, hj, rfl, rfl⟩
    · have hn : (List.range 14)[j]? = none := List.getElem?_eq_none (by rw [List.length_range]; omega)
      rw [hn] at h
      cases h
section ZK
variable {p : Program} {l : Launch} {e : Env} {R : Room} {s : State} {m : MethodId} {args : Array Value} {below : List Frame} {meth : Method} {c : Code} {H : Heap} {locs : List Loc} {cells slots : Nat} {Q : State → Prop}
variable {cc : ByteArray} {own : String} {pc : Nat} {ls : Array Slot} {rest : List Value} {D : va_G} {q : Nat → ClassId} {nL : Nat} {A : Nat → Prop} {a : Nat} {ws ws' : va_W}
theorem zk_get (hC : zC p s m args c cc own D q nL A) (hW : zW D A s.heap ws H locs) {idx ci k : Nat} (hF : FG own idx ci k) (q0 : Nat) {fs : List Value} (he : ws[q0]? = some (a, .inr (ci, fs))) {v : Value} (hv : fs[k]? = some v) (hdg : decode cc pc = .ok (.getfield idx, 3))
    (kk : W p l e R s m args below meth c H locs cells slots Q (F0 m (pc + 3) ls (v :: rest))) : W p l e R s m args below meth c H locs cells slots Q (F0 m pc ls (.ref a :: rest)) := by
  obtain ⟨C, T, N, h1, h2, h3, h4⟩ := hF
  exact va_get hC.1 hC.2.1 hC.2.2.2.1 h2 hC.2.2.1 hC.2.2.2.2.1 hW.1 q0 he h1 k h3 (hC.2.2.2.1 _ h4) (fun _ h => h) hv hdg kk
theorem zk_put (hC : zC p s m args c cc own D q nL A) (hW : zW D A s.heap ws H locs) {idx ci k : Nat} {ty : FieldType} (hF : FP own idx ci k ty) (q0 : Nat) {fs : List Value} (he : ws[q0]? = some (a, .inr (ci, fs))) {v : Value} (hl : k < fs.length) (hn : narrow ty v = v) (hfit : fits ty v = true) (hws : ws.set q0 (a, .inr (ci, fs.set k v)) = ws') (hdg : decode cc pc = .ok (.putfield idx, 3))
    (kk : ∀ (H1 : Heap) (locs1 : List Loc), zW D A s.heap ws' H1 locs1 → W p l e R s m args below meth c H1 locs1 cells slots Q (F0 m (pc + 3) ls rest)) : W p l e R s m args below meth c H locs cells slots Q (F0 m pc ls (v :: .ref a :: rest)) := by
  subst hws
  obtain ⟨C, T, N, ty0, h1, h2, h3, h4, h5, h6, h7, h8⟩ := hF
  exact va_put hC.1 hC.2.1 hC.2.2.2.1 h2 ty0 h5 h6 hC.2.2.1 hC.2.2.2.2.1 hW.1 hW.2.1 hW.2.2.1 q0 he h1 k h3 (hC.2.2.2.1 _ h4) (fun _ h => h) h7 h8 hn hfit hl hdg fun H1 locs1 a1 a2 a3 => kk H1 locs1 ⟨a1, a2, a3, hW.2.2.2⟩
/-- what a final field's putfield in a constructor needs -/
def FF (own : String) (idx ci k : Nat) (ty : FieldType) : Prop := ∃ (C : String) (T : u_T) (N : Nat) (ty0 : Nat → FieldType), vwCl[ci]? = some (C, T, N) ∧ (∀ w ∈ u_ws C T N, w ∈ TB) ∧ k < N ∧ Cond.fieldLink own idx (T k).1 (T k).2.1 (T k).2.2.1 ∈ TB ∧
  (∀ k, k < N → parseFieldDescriptor (T k).2.2.1 = some (ty0 k)) ∧ (∀ a, a < N → ∀ b, b < N → a ≠ b → (T a).2.1 ≠ (T b).2.1) ∧ (T k).2.2.2 = true ∧ (T k).1 = own ∧ parseFieldDescriptor (T k).2.2.1 = some ty
theorem zk_putF (hC : zC p s m args c cc own D q nL A) (hW : zW D A s.heap ws H locs) (hin : meth.name = "<init>") {idx ci k : Nat} {ty : FieldType} (hF : FF own idx ci k ty) (q0 : Nat) {fs : List Value} (he : ws[q0]? = some (a, .inr (ci, fs))) {v : Value} (hl : k < fs.length) (hn : narrow ty v = v) (hfit : fits ty v = true) (hws : ws.set q0 (a, .inr (ci, fs.set k v)) = ws') (hdg : decode cc pc = .ok (.putfield idx, 3))
    (kk : ∀ (H1 : Heap) (locs1 : List Loc), zW D A s.heap ws' H1 locs1 → W p l e R s m args below meth c H1 locs1 cells slots Q (F0 m (pc + 3) ls rest)) : W p l e R s m args below meth c H locs cells slots Q (F0 m pc ls (v :: .ref a :: rest)) := by
  subst hws
  obtain ⟨C, T, N, ty0, h1, h2, h3, h4, h5, h6, h7, h9, h8⟩ := hF
  exact va_putF hC.1 hC.2.1 hC.2.2.2.1 h2 ty0 h5 h6 hC.2.2.1 hC.2.2.2.2.1 hW.1 hW.2.1 hW.2.2.1 q0 he h1 k h3 (hC.2.2.2.1 _ h4) (fun _ h => h) h7 hin h9 h8 hn hfit hl hdg fun H1 locs1 a1 a2 a3 => kk H1 locs1 ⟨a1, a2, a3, hW.2.2.2⟩
theorem zk_iast (hC : zC p s m args c cc own D q nL A) (hW : zW D A s.heap ws H locs) (q0 : Nat) {n : Nat} {f : Nat → Int32} (ha : ws[q0]? = some (a, .inl (q 0, n, .inl f))) {i x : Int32} (hin : vp_in i n) (hws : ws.set q0 (a, .inl (q 0, n, .inl (upd f i.toNatClampNeg x))) = ws') (hdg : decode cc pc = .ok (.iastore, 1))
    (kk : ∀ (H1 : Heap) (locs1 : List Loc), zW D A s.heap ws' H1 locs1 → W p l e R s m args below meth c H1 locs1 cells slots Q (F0 m (pc + 1) ls rest)) : W p l e R s m args below meth c H locs cells slots Q (F0 m pc ls (.int x :: .int i :: .ref a :: rest)) := by
  subst hws
  exact va_iast hC.1 hC.2.1 hC.2.2.2.2.1 hW.1 hW.2.1 hW.2.2.1 q0 0 ha rfl hin hdg fun H1 locs1 a1 a2 a3 => kk H1 locs1 ⟨a1, a2, a3, hW.2.2.2⟩
theorem zk_aast (hC : zC p s m args c cc own D q nL A) (hW : zW D A s.heap ws H locs) (q0 qk : Nat) {n v : Nat} {vs : List Value} {f : Nat → Option Nat} (ha : ws[q0]? = some (a, .inl (q 5, n, .inr (.inr (.inr (.inr f)))))) (hv : ws[qk]? = some (v, .inr (4, vs))) {i : Int32} (hin : vp_in i n) (hws : ws.set q0 (a, .inl (q 5, n, .inr (.inr (.inr (.inr (va_up f i.toNatClampNeg (some v))))))) = ws') (hdg : decode cc pc = .ok (.aastore, 1))
    (kk : ∀ (H1 : Heap) (locs1 : List Loc), zW D A s.heap ws' H1 locs1 → W p l e R s m args below meth c H1 locs1 cells slots Q (F0 m (pc + 1) ls rest)) : W p l e R s m args below meth c H locs cells slots Q (F0 m pc ls (.ref v :: .int i :: .ref a :: rest)) := by
  subst hws
  exact va_astq (r := (RX4, TX4, 5)) hC.1 hC.2.1 hC.2.2.2.2.1 hW.1 hW.2.1 hW.2.2.1 q0 5 qk 4 ha rfl hv rfl hin hdg fun H1 locs1 a1 a2 a3 => kk H1 locs1 ⟨a1, a2, a3, hW.2.2.2⟩
theorem zk_newa (hC : zC p s m args c cc own D q nL A) (hW : zW D A s.heap ws H locs) {atype : ArrayType} {ty : FieldType} (hw : Cond.arrayClass (newarray.typeOf atype) ∈ TB) (hty : newarray.typeOf atype = ty) (t0 : Nat) (ht : (zT q)[t0]? = some (q t0, ty)) (hra : ∀ (U : State) (cA : ClassId), va_RA U cA ty → U.vm.findClass ("[" ++ ty.toString) = some cA)
    {n : Int32} {N' : Nat} {a0 : vp_A} (ha : ∀ cA : ClassId, vp_cell cA a0 = arrV cA N' (fun _ => defaultValue ty)) (hn : ¬ n < 0) (hN : n.toNatClampNeg = N') (hbytes : N' * componentBytes ty ≤ 536870912) (hcells : cells + 1 ≤ R.cells) (hslots : slots + N' ≤ R.slots) (hdg : decode cc pc = .ok (.newarray atype, 2))
    (kk : ∀ (x : Nat) (H1 : Heap), zW D A s.heap (ws ++ [(x, .inl (q t0, a0))]) H1 locs → W p l e R s m args below meth c H1 locs (cells + 1) (slots + N') Q (F0 m (pc + 2) ls (.ref x :: rest))) : W p l e R s m args below meth c H locs cells slots Q (F0 m pc ls (.int n :: rest)) := by
  refine va_newa hC.1 hC.2.1 (hC.2.2.2.1 _ hw) hty hC.2.2.2.2.1 hW.1 hW.2.1 hW.2.2.1 hW.2.2.2 ha hn hN hbytes hcells hslots hdg (fun x cA H1 hK hP hD hS => ?_)
  have h1 := hra s cA (hK.2 7 (cA, ty) rfl).2
  have h2 := hra s (q t0) (hC.2.2.2.2.1.2 t0 _ ht).2
  have e : cA = q t0 := Option.some.inj (h1.symm.trans h2)
  subst e
  exact kk x H1 ⟨hP, hD, hS, hW.2.2.2⟩
theorem zk_anewa (hC : zC p s m args c cc own D q nL A) (hW : zW D A s.heap ws H locs) {idx : Nat} (hao : zAo s) (hcl : Cond.classLink own idx "ThreeDoors$Shelf" ∈ TB)
    {n : Int32} {N' : Nat} (hn : ¬ n < 0) (hN : n.toNatClampNeg = N') (hbytes : N' * 4 ≤ 536870912) (hcells : cells + 1 ≤ R.cells) (hslots : slots + N' ≤ R.slots) (hdg : decode cc pc = .ok (.anewarray idx, 3))
    (kk : ∀ (x : Nat) (H1 : Heap), zW D A s.heap (ws ++ [(x, .inl (q 5, N', .inr (.inr (.inr (.inr (fun _ => none))))))]) H1 locs → W p l e R s m args below meth c H1 locs (cells + 1) (slots + N') Q (F0 m (pc + 3) ls (.ref x :: rest))) : W p l e R s m args below meth c H locs cells slots Q (F0 m pc ls (.int n :: rest)) := by
  refine va_newq hC.1 hC.2.1 hC.2.2.1 (hC.2.2.2.1 _ hcl) hao.1 hC.2.2.2.2.1 hW.1 hW.2.1 hW.2.2.1 hW.2.2.2 hn hN hbytes hcells hslots hdg (fun x cA H1 hK hP hD hS => ?_)
  obtain ⟨-, -, -, -, -, h1⟩ := (hK.2 7 (cA, _) rfl).2
  obtain ⟨-, -, -, -, -, h2⟩ := (hC.2.2.2.2.1.2 5 _ rfl).2
  have e : cA = q 5 := Option.some.inj (h1.symm.trans h2)
  subst e
  exact kk x H1 ⟨hP, hD, hS, hW.2.2.2⟩
theorem zk_mna (hC : zC p s m args c cc own D q nL A) (hao : zAo s) (hW : zW D A s.heap ws H locs) {idx : Nat} (hcl : Cond.classLink own idx ("[" ++ (FieldType.array .int).toString) ∈ TB) (hac : Cond.arrayClass .int ∈ TB) (hcells : cells + (1 + 14) ≤ R.cells) (hslots : slots + (14 + 14 * 14) ≤ R.slots) (hdg : decode cc pc = .ok (.multianewarray idx 2, 4))
    (kk : ∀ (x : Nat) (H1 : Heap), zW D A s.heap (ws ++ ((x, .inl (q 6, 14, .inr (.inr (.inr (.inr (fun i => if i < 14 then some (x + 1 + i) else none)))))) :: (List.range 14).map (fun i => (x + 1 + i, .inl (q 0, 14, .inl (fun _ => 0)))))) H1 locs → W p l e R s m args below meth c H1 locs (cells + 1 + 14) (slots + 14 + 14 * 14) Q (F0 m (pc + 4) ls (.ref x :: rest))) : W p l e R s m args below meth c H locs cells slots Q (F0 m pc ls (.int 14 :: .int 14 :: rest)) := by
  intro T hT Xs
  obtain ⟨vm₁, cA, comp, -, fA, fC, hO, -, X', step⟩ := Xs.multianewarray2F hC.1 hC.2.2.1 (hC.2.2.2.1 _ hcl) (Cond.arrayOver_args hao.2) (hC.2.2.2.1 _ hac) (g := F0 m pc ls (.int 14 :: .int 14 :: rest)) rfl (by rw [hC.2.1]; exact hdg) rfl (by decide) (by decide) (by decide) (by decide) (by decide) rfl rfl hcells hslots
  have e14 : (14 : Int32).toNatClampNeg = 14 := by decide
  rw [e14] at X' step
  have ec : some comp = some (q 0) := fC.symm.trans (hC.2.2.2.2.1.2 0 (q 0, .int) rfl).2
  have ec := Option.some.inj ec
  subst ec
  have ea : some cA = some (q 6) := fA.symm.trans (hC.2.2.2.2.1.2 6 (q 6, .array .int) rfl).2
  have ea := Option.some.inj ea
  subst ea
  generalize hF : Jvm.Free.Multi.fill (T.setVm vm₁) (q 6) (q 0) 14 14 (defaultValue .int) 14 = F at X' step
  have hTh : (T.setVm vm₁).heap = H := hT
  obtain ⟨f1, f2, -, -⟩ := Jvm.Free.Multi.fill_facts (T.setVm vm₁) (q 6) (q 0) 14 14 (defaultValue .int) 14
  rw [hF, hTh] at f1 f2
  have hold : ∀ x : Nat, x < H.size → F.heap[x]? = H[x]? := fun x hx => by
    have := Jvm.Free.Multi.fill_old (T.setVm vm₁) (q 6) (q 0) 14 14 (defaultValue .int) (a := x) (by rw [hTh]; exact hx) 14
    rw [hF, hTh] at this
    exact this
  have hrow : ∀ j : Nat, j < 14 → F.heap[H.size + 1 + j]? = some (vp_cell (q 0) (14, .inl (fun _ => 0))) := fun j hj => by
    have := Jvm.Free.Multi.fill_inner (T.setVm vm₁) (q 6) (q 0) 14 14 (defaultValue .int) 14 j hj
    rw [hF, hTh] at this
    rw [this]
    exact congrArg some (arrV_new (q 0) 14 _)
  have hout : Jvm.Free.Multi.outerC (q 6) 14 H.size 14 = vp_cell (q 6) (14, .inr (.inr (.inr (.inr (fun i => if i < 14 then some (H.size + 1 + i) else none))))) := by
    rw [vp_cell_q]
    exact zr_outer (q 6) 14 H.size 14
  rw [hout] at f2
  have hk : ∀ (k : Nat) (x : Nat × va_E), ws[k]? = some x → F.heap[x.1]? = H[x.1]? := fun k x hx => hold x.1 ((hW.1 k x hx).lt)
  have hsz := hW.2.2.1.1
  have hTT : (T.setVm vm₁).heap.size = H.size := by rw [hTh]
  have hW2 : zW D A s.heap (ws ++ ((H.size, .inl (q 6, 14, .inr (.inr (.inr (.inr (fun i => if i < 14 then some (H.size + 1 + i) else none)))))) :: (List.range 14).map (fun i => (H.size + 1 + i, .inl (q 0, 14, .inl (fun _ => 0)))))) F.heap locs := by
    refine ⟨va_P.app (hW.1.kept hk) (fun k x hx => ?_), va_D.app hW.2.1 ⟨fun i j x y hi hj h => ?_, fun k x hx => ?_⟩ (fun i j x y hx hy h => ?_), ⟨Nat.le_trans hsz (by omega), fun x h1 h2 => (hold x (Nat.lt_of_lt_of_le h1 hsz)).trans (hW.2.2.1.2.1 x h1 h2), hW.2.2.1.2.2⟩, hW.2.2.2⟩
    · rcases zr_get k x hx with ⟨rfl, rfl⟩ | ⟨j, hj, rfl, rfl⟩
      · exact f2
      · exact hrow j hj
    · rcases zr_get i x hi with ⟨rfl, rfl⟩ | ⟨j1, h1, rfl, rfl⟩ <;> rcases zr_get j y hj with ⟨rfl, rfl⟩ | ⟨j2, h2, rfl, rfl⟩
      · rfl
      · exact absurd h (by show ¬ H.size = H.size + 1 + j2; omega)
      · exact absurd h (by show ¬ H.size + 1 + j1 = H.size; omega)
      · have : H.size + 1 + j1 = H.size + 1 + j2 := h
        omega
    · rcases zr_get k x hx with ⟨rfl, rfl⟩ | ⟨j, hj, rfl, rfl⟩
      · exact hW.2.2.2 _ hsz
      · exact hW.2.2.2 _ (by show s.heap.size ≤ H.size + 1 + j; omega)
    · have hl := (hW.1 i x hx).lt
      rcases zr_get j y hy with ⟨rfl, rfl⟩ | ⟨j2, h2, rfl, rfl⟩
      · have : x.1 = H.size := h
        omega
      · have : x.1 = H.size + 1 + j2 := h
        omega
  obtain ⟨t, a1, b1⟩ := kk H.size F.heap hW2 F rfl X'
  exact ⟨t, step t (by rw [hT]; exact a1), b1⟩
theorem zk_new (hC : zC p s m args c cc own D q nL A) (hW : zW D A s.heap ws H locs) {C : String} {T : u_T} {N ci idx : Nat} {ty : Nat → FieldType} (hin : ∀ w ∈ u_ws C T N, w ∈ TB) (hty : ∀ k, k < N → parseFieldDescriptor (T k).2.2.1 = some (ty k)) (hcl : Cond.classLink own idx C ∈ TB) (hinst : Cond.instantiable C N ∈ TB) (hini : Cond.initialized C ∈ TB) (hc : vwCl[ci]? = some (C, T, N)) {fs : List Value} (hfs : ∀ j, j < N → defaultValue (ty j) = vp_V fs j) (hcells : cells + 1 ≤ R.cells) (hslots : slots + N ≤ R.slots) (hdg : decode cc pc = .ok (.new idx, 3))
    (kk : ∀ (x : Nat) (H1 : Heap), zW D A s.heap (ws ++ [(x, .inr (ci, fs))]) H1 locs → W p l e R s m args below meth c H1 locs (cells + 1) (slots + N) Q (F0 m (pc + 3) ls (.ref x :: rest))) : W p l e R s m args below meth c H locs cells slots Q (F0 m pc ls rest) :=
  va_new hC.1 hC.2.1 hC.2.2.2.1 hin ty hty hC.2.2.1 (hC.2.2.2.1 _ hcl) (hC.2.2.2.1 _ hinst) (hC.2.2.2.1 _ hini) hC.2.2.2.2.1 hW.1 hW.2.1 hW.2.2.1 hW.2.2.2 hc hfs hcells hslots hdg (fun x H1 hP hD hS => kk x H1 ⟨hP, hD, hS, hW.2.2.2⟩)
theorem zk_objInit (hC : zC p s m args c cc own D q nL A) {idx : Nat} (hl : Cond.methodLink own idx objectInit ∈ TB) (hi : Cond.instanceMethod objectInit ∈ TB) (hc : Cond.code objectInit ⟨#[0xb1]⟩ 1 none ∈ TB) (hls : ls.size = nL) (hf : 1 ≤ R.frames) (hlo : 12 ≤ R.locals) (hdg : decode cc pc = .ok (.invokespecial idx, 3))
    (kk : W p l e R s m args below meth c H locs cells slots Q (F0 m (pc + 3) ls [])) : W p l e R s m args below meth c H locs cells slots Q (F0 m pc ls [.ref a]) :=
  W.objInit hC.1 hC.2.1 hC.2.2.1 (hC.2.2.2.1 _ hl) (hC.2.2.2.1 _ hi) (hC.2.2.2.1 _ hc) rfl (hls.trans hC.2.2.2.2.2.1.symm) rfl hdg hf (by show 2 * 0 + 0 + 12 ≤ R.locals; omega) kk
/-- a rest that stays beside a callee's world -/
theorem z_fr {cl : List vw_C} {A0 : Nat → Prop} {wr wc w1 : va_W} {H H1 : Heap} (hP : va_P D cl (wr ++ wc) H) (hD : va_D A0 (wr ++ wc)) (hk : ∀ x : Nat, x < H.size → ¬ va_A wc H.size x → H1[x]? = H[x]?) (hF : ∀ x, va_A wc H.size x → A0 x) (hP1 : va_P D cl w1 H1) (hD1 : va_D (va_A wc H.size) w1) : va_P D cl (wr ++ w1) H1 ∧ va_D A0 (wr ++ w1) := by
  have hr : ∀ (k : Nat) (x : Nat × va_E), wr[k]? = some x → (wr ++ wc)[k]? = some x := fun k x hx => by
    rw [List.getElem?_append_left (List.getElem?_eq_some_iff.mp hx).1]; exact hx
  have hc : ∀ (k : Nat) (x : Nat × va_E), wc[k]? = some x → (wr ++ wc)[wr.length + k]? = some x := fun k x hx => by
    rw [List.getElem?_append_right (by omega)]; rw [show wr.length + k - wr.length = k by omega]; exact hx
  have apart : ∀ (k : Nat) (x : Nat × va_E), wr[k]? = some x → x.1 < H.size ∧ ¬ va_A wc H.size x.1 := by
    intro k x hx
    have hl := (hP k x (hr k x hx)).lt
    refine ⟨hl, fun h => ?_⟩
    rcases h with ⟨k2, e, h⟩ | h
    · have := hD.1 k (wr.length + k2) x (x.1, e) (hr k x hx) (hc k2 _ h) rfl
      have hlt := (List.getElem?_eq_some_iff.mp hx).1
      omega
    · omega
  refine ⟨va_P.app (fun k x hx => ?_) hP1, va_D.app ⟨fun i j x y hi hj h => hD.1 i j x y (hr i x hi) (hr j y hj) h, fun k x hx => hD.2 k x (hr k x hx)⟩ (hD1.weaken (fun k x _ h => hF x.1 h)) (fun i j x y hx hy hxy => ?_)⟩
  · obtain ⟨g1, g2⟩ := apart k x hx
    exact (hP k x (hr k x hx)).kept (hk x.1 g1 g2)
  · exact (apart i x hx).2 (by rw [hxy]; exact hD1.2 j y hy)
theorem z_sub {wr wc : va_W} (hW : zW D A s.heap (wr ++ wc) H locs) : zW D A s.heap wc H locs := by
  have hc : ∀ (k : Nat) (x : Nat × va_E), wc[k]? = some x → (wr ++ wc)[wr.length + k]? = some x := fun k x hx => by
    rw [List.getElem?_append_right (by omega)]; rw [show wr.length + k - wr.length = k by omega]; exact hx
  refine ⟨fun k x hx => hW.1 _ x (hc k x hx), ⟨fun i j x y hi hj h => ?_, fun k x hx => hW.2.1.2 _ x (hc k x hx)⟩, hW.2.2.1, hW.2.2.2⟩
  have := hW.2.1.1 _ _ x y (hc i x hi) (hc j y hj) h
  omega
theorem z_swap {w1 w2 : va_W} (hW : zW D A s.heap (w1 ++ w2) H locs) : zW D A s.heap (w2 ++ w1) H locs := by
  have h1 := va_P.swap (a := []) hW.1
  have h2 := va_D.swap (a := []) hW.2.1
  exact ⟨h1, h2, hW.2.2.1, hW.2.2.2⟩
/-- a constructor's contract: from the new object alone; addresses of what it makes are told by u -/
def zMk {S : Type} (l : Launch) (y : MethodName) (cc : ByteArray) (nL : Nat) (rm : Room) (h0 : Nat) (D : va_G) (q : Nat → ClassId) (ws : va_W) (sz : Nat) (wsf : S → va_W) (ok : S → Prop) (mc ms : Nat) : Prop :=
  Met l y (zws y cc nL none) rm (va_Pc [.ref h0] (fun U => zPre D q ws sz U ∧ zAo U)) (va_Qv ok (fun u => zAt D q (va_A ws sz) (wsf u)) (va_A ws sz)) mc ms (va_A ws sz)
theorem zMet_k {S : Type} {y : MethodName} {rm : Room} {h0 sz mc ms : Nat} {wsf : S → va_W} {ok : S → Prop} (hy : plainName y.cls = true) (hown : y.cls = own) (hin : y.name = "<init>") (hnl : 1 ≤ nL)
    (body : ∀ (p : Program) (e : Env) (s : State) (m : MethodId) (args : Array Value) (below : List Frame) (meth : Method) (c : Code) (A : Nat → Prop) (ls : Array Slot) (Q : State → Prop), zC p s m args c cc own D q nL A → meth.name = "<init>" → zAo s → zW D A s.heap ws s.heap [] → lv_has ls nL [(0, .ref h0)] →
      (∀ (pc : Nat) (H : Heap) (locs : List Loc) (ls : Array Slot) (u : S) (k n : Nat), decode cc pc = .ok (.return_, 1) → ok u → zW D A s.heap (wsf u) H locs → k ≤ mc → n ≤ ms → W p l e rm s m args below meth c H locs k n Q (F0 m pc ls [])) →
      W p l e rm s m args below meth c s.heap [] 0 0 Q (F0 m 0 ls [])) : zMk l y cc nL rm h0 D q ws sz wsf ok mc ms := by
  unfold zMk
  refine Met.ofW (cc := cc) (maxL := nL) (ret := none) hy rfl ?_
  intro p e s m args below meth c s₁ B hml hv
  obtain ⟨rfl, hz, hao⟩ := hv
  obtain ⟨hC, hW, hr, hk⟩ := zEntry B hml hown hz
  have hmn : meth.name = "<init>" := (name_of_methodNamed B.named B.method).1.trans hin
  have hl := lv_entry [.ref h0] (n := nL) hnl
  rw [lg_entry_eq]
  generalize (lg_sl [.ref h0] ++ List.replicate (nL - (lg_sl [.ref h0]).length) Slot.unset).toArray = ls at hl ⊢
  refine body p e s m _ below meth c (va_A ws sz) ls _ hC hmn hao hW hl ?_
  intro pc H locs ls u k n hdg hu hW' hk1 hk2
  refine W.widen (k := mc) (n := ms) hk1 hk2 ?_
  exact W.vret hC.1 hC.2.1 hr (fun t ht hWm => ⟨⟨u, rfl, hu, by rw [ht]; exact hW'.1, va_K.moved hWm.alike hC.2.2.2.2.1, hW'.2.1⟩, hW'.2.2.1.F ht⟩) hW'.2.2.1.2.2 hdg hk
theorem zPreK_blind {D : va_G} {q : Nat → ClassId} {ws : va_W} {sz : Nat} {As : List Value} : FrameBlind (va_Pc As (fun U => zPre D q ws sz U ∧ zAo U)) := by
  intro a U g mk h
  obtain ⟨h1, h2, h3⟩ := h
  have h4 := zPre_blind (As := As) a U g mk ⟨h1, h2⟩
  exact ⟨h1, h4.2, zAo.moved (u := U) (U := U.calling g mk a) (Vm.Alike.refl U.vm) h3⟩
/-- new's constructor, of the class itself -/
theorem zk_init {S : Type} {wr wc : va_W} (hC : zC p s m args c cc own D q nL A) (hao : zAo s) (hW : zW D A s.heap (wr ++ wc) H locs) {y : MethodName} {cc' : ByteArray} {nL' idx mc ms : Nat} {rm : Room} {wsf : S → va_W} {ok : S → Prop}
    (hM : zMk l y cc' nL' rm a D q wc H.size wsf ok mc ms) (hL : Cond.methodLink own idx y ∈ TB ∧ Cond.instanceMethod y ∈ TB ∧ Cond.initialized y.cls ∈ TB ∧ Cond.code y cc' nL' none ∈ TB) (hy : y.name = "<init>") (hd : y.cls ≠ "java/lang/invoke/MethodHandle" ∧ y.cls ≠ "java/lang/invoke/VarHandle" ∧ (parseMethodDescriptor y.desc).map (fun d => d.parameters.length) = some 0)
    (hrm : rm.cells = mc ∧ rm.slots = ms) (hR : rm.frames + 1 ≤ R.frames ∧ 8 + (nL' + 11) + rm.locals ≤ R.locals) (hls : ls.size = nL) (hrs : (rest.map fun v => v.category).sum ≤ 8) (hdg : decode cc pc = .ok (.invokespecial idx, 3)) (hf : cells + mc ≤ R.cells ∧ slots + ms ≤ R.slots)
    (kk : ∀ (u : S) (H1 : Heap) (locs1 : List Loc), ok u → zW D A s.heap (wr ++ wsf u) H1 locs1 → W p l e R s m args below meth c H1 locs1 (cells + mc) (slots + ms) Q (F0 m (pc + 3) ls rest)) : W p l e R s m args below meth c H locs cells slots Q (F0 m pc ls (.ref a :: rest)) := by
  have hWc := z_sub hW
  have hG : GoodIn TB (zws y cc' nL' none) := by
    intro w hw
    have : w ∈ TB := by
      simp only [zws, List.mem_cons] at hw
      rcases hw with rfl | hw
      · exact hL.2.2.2
      · exact hw
    exact ⟨this, tb_in this⟩
  refine va_callv (mc := mc) (ms := ms) (va_runI (As := []) (rest := rest) ⟨hC.1, hC.2.1, hC.2.2.2.2.2.1, hC.2.2.1, hC.2.2.2.1⟩ hM (cwI 0 hC.2.2.2.1 hG rfl hrm.1 hrm.2 (hC.2.2.2.1 _ hL.2.2.1) (hC.2.2.2.1 _ hL.1) (hC.2.2.2.1 _ hL.2.1) hy hd hR) ⟨zPreK_blind, fun U hU hw => ⟨rfl, z_pre hC hWc hU hw, hao.moved hw.alike⟩⟩ rfl rfl hls rfl (lv_room hrs) hdg hf) hW.2.2.1 (fun x _ h => z_A1 hWc x h) (z_A1 hWc) (fun u t H1 locs1 ht hvm hw hB hz hk hS => ?_)
  subst ht
  obtain ⟨h1, h2⟩ := z_fr hW.1 hW.2.1 hk (z_A1 hWc) hB.1 hB.2.2
  exact kk u _ locs1 hw ⟨h1, h2, hS, hW.2.2.2⟩
/-- new's constructor, of a nest mate -/
theorem zk_initN {S : Type} {wr wc : va_W} (hC : zC p s m args c cc own D q nL A) (hao : zAo s) (hW : zW D A s.heap (wr ++ wc) H locs) {y : MethodName} {cc' : ByteArray} {nL' idx mc ms : Nat} {host : String} {rm : Room} {wsf : S → va_W} {ok : S → Prop}
    (hM : zMk l y cc' nL' rm a D q wc H.size wsf ok mc ms) (hN : va_Nw (.methodLinkNest own idx y host) s) (hL : Cond.instanceMethod y ∈ TB ∧ Cond.initialized y.cls ∈ TB ∧ Cond.code y cc' nL' none ∈ TB) (hy : y.name = "<init>") (hd : y.cls ≠ "java/lang/invoke/MethodHandle" ∧ y.cls ≠ "java/lang/invoke/VarHandle" ∧ (parseMethodDescriptor y.desc).map (fun d => d.parameters.length) = some 0)
    (hrm : rm.cells = mc ∧ rm.slots = ms) (hR : rm.frames + 1 ≤ R.frames ∧ 8 + (nL' + 11) + rm.locals ≤ R.locals) (hls : ls.size = nL) (hrs : (rest.map fun v => v.category).sum ≤ 8) (hdg : decode cc pc = .ok (.invokespecial idx, 3)) (hf : cells + mc ≤ R.cells ∧ slots + ms ≤ R.slots)
    (kk : ∀ (u : S) (H1 : Heap) (locs1 : List Loc), ok u → zW D A s.heap (wr ++ wsf u) H1 locs1 → W p l e R s m args below meth c H1 locs1 (cells + mc) (slots + ms) Q (F0 m (pc + 3) ls rest)) : W p l e R s m args below meth c H locs cells slots Q (F0 m pc ls (.ref a :: rest)) := by
  have hWc := z_sub hW
  have hG : GoodIn TB (zws y cc' nL' none) := by
    intro w hw
    have : w ∈ TB := by
      simp only [zws, List.mem_cons] at hw
      rcases hw with rfl | hw
      · exact hL.2.2
      · exact hw
    exact ⟨this, tb_in this⟩
  refine va_callv (mc := mc) (ms := ms) (va_runIN (As := []) (rest := rest) ⟨hC.1, hC.2.1, hC.2.2.2.2.2.1, hC.2.2.1, hC.2.2.2.1⟩ hM ⟨va_cnB 0 hC.2.2.2.1 hG rfl hrm.1 hrm.2 hN (hC.2.2.2.1 _ hL.2.1) hd hR, hy, hC.2.2.2.1 _ hL.1⟩ ⟨zPreK_blind, fun U hU hw => ⟨rfl, z_pre hC hWc hU hw, hao.moved hw.alike⟩⟩ rfl rfl hls rfl (lv_room hrs) hdg hf) hW.2.2.1 (fun x _ h => z_A1 hWc x h) (z_A1 hWc) (fun u t H1 locs1 ht hvm hw hB hz hk hS => ?_)
  subst ht
  obtain ⟨h1, h2⟩ := z_fr hW.1 hW.2.1 hk (z_A1 hWc) hB.1 hB.2.2
  exact kk u _ locs1 hw ⟨h1, h2, hS, hW.2.2.2⟩
end ZK
